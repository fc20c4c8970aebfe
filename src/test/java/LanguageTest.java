import java.lang.reflect.Field;
import java.lang.reflect.Method;
import java.lang.reflect.Modifier;
import java.nio.file.Files;
import java.nio.file.Path;
import java.util.ArrayList;
import java.util.Arrays;
import java.util.List;
import java.util.TreeSet;
import java.util.regex.Matcher;
import java.util.regex.Pattern;

/** The public face, and of LANGUAGE.md what can be read off the file. */
final class LanguageTest {
    private static final String FACE = "apart3 back1 beside2 best0 bounds2 chance3 child6 count1 dealt2 drawn1 end1 fact3"
        + " fault0 feed5 fewest6 goneOn1 group2 half1 hides1 image1 lasts3 later3 like3 likely1 looked1 meaning2 member2"
        + " minute3 of2 paid2 pairs3 parts5 promise2 right3 row1 run2 status0 stays2 terms2 text0 times3 trial3 trust1"
        + " waits2 world2";

    public static void main(String[] args) throws Exception {
        Check c = new Check("LanguageTest");
        face(c);
        String source = Files.readString(Path.of("src/main/java/SweetWaits.java"));
        members(c);
        words(c, bare(source));
        methods(c, bare(source));
        c.end();
    }

    private static void face(Check c) {
        TreeSet<String> got = new TreeSet<>();
        for (Method m : SweetWaits.class.getDeclaredMethods()) {
            if (Modifier.isPublic(m.getModifiers())) {
                boolean ints = Arrays.stream(m.getParameterTypes()).allMatch(t -> t == int.class);
                got.add(m.getName() + m.getParameterCount());
                c.so(m.getName() + " has ints alone", ints && m.getReturnType() == int.class);
            } else {
                c.so(m.getName() + " is private", Modifier.isPrivate(m.getModifiers()));
            }
        }
        TreeSet<String> want = new TreeSet<>(Arrays.asList(FACE.split(" ")));
        c.so("the face is " + got, got.equals(want));
        c.due("constructors", SweetWaits.class.getConstructors().length, 1);
        c.so("final", Modifier.isFinal(SweetWaits.class.getModifiers()));
        for (Field f : SweetWaits.class.getDeclaredFields()) {
            boolean none = f.getName().equals("NONE") && Modifier.isPublic(f.getModifiers());
            c.so(f.getName() + " is private", none || Modifier.isPrivate(f.getModifiers()));
        }
    }

    private static void members(Check c) {
        List<Class<?>> all = new ArrayList<>(List.of(SweetWaits.class.getDeclaredClasses()));
        List<String> open = new ArrayList<>();
        for (Method m : SweetWaits.class.getDeclaredMethods()) {
            if (Modifier.isPublic(m.getModifiers())) {
                open.add(m.getName());
            }
        }
        for (Class<?> k : all) {
            c.so(k.getName() + " is static", Modifier.isStatic(k.getModifiers()));
            for (Method m : k.getDeclaredMethods()) {
                c.so(k.getName() + "." + m.getName() + " bears no public name", !open.contains(m.getName()));
            }
        }
        all.add(SweetWaits.class);
        c.so("classes: " + all.size(), all.size() <= 12);
        for (Class<?> k : all) {
            int own = 0;
            for (Field f : k.getDeclaredFields()) {
                boolean still = Modifier.isStatic(f.getModifiers());
                own += still ? 0 : 1;
                c.so(k.getName() + "." + f.getName() + " is final", !still || Modifier.isFinal(f.getModifiers()));
            }
            c.so("fields of " + k.getName(), own <= 20);
            for (Method m : k.getDeclaredMethods()) {
                c.so("parameters of " + m.getName(), m.getParameterCount() <= 7);
            }
        }
    }

    private static String bare(String source) {
        String noComments = source.replaceAll("(?s)/\\*.*?\\*/", "").replaceAll("//[^\n]*", "");
        return noComments.replaceAll("\"[^\"\n]*\"", "\"\"").replaceAll("'[^'\n]+'", "'x'");
    }

    private static void words(Check c, String bare) {
        String[] out = {"throw", "throws", "try", "catch", "synchronized", "assert", "instanceof", "double", "float",
            "static\\s*\\{", "->", "::", "Exact\\b", "values\\(", "new Object", "Thread", "Random", "protected", "package"};
        for (String word : out) {
            Matcher m = Pattern.compile((Character.isLetter(word.charAt(0)) ? "\\b" : "") + word).matcher(bare);
            c.so("without " + word, !m.find());
        }
        Matcher imports = Pattern.compile("import ([\\w.]+);").matcher(bare);
        while (imports.find()) {
            c.so("import " + imports.group(1), imports.group(1).equals("java.util.Arrays"));
        }
        Matcher library = Pattern.compile("\\b(System|Arrays|Math|Integer|Long)\\.(\\w+)").matcher(bare);
        List<String> allowed = List.of("System.arraycopy", "Arrays.copyOf", "Arrays.fill", "Math.max", "Math.min",
            "Math.abs", "Integer.compare");
        while (library.find()) {
            c.so("library: " + library.group(), allowed.contains(library.group()));
        }
    }

    /** Methods stay short: none goes over sixty lines from its head to its closing bracket. */
    private static void methods(Check c, String bare) {
        String[] lines = bare.split("\n", -1);
        int head = -1;
        String indent = "";
        for (int i = 0; i < lines.length; i++) {
            String line = lines[i];
            String space = line.substring(0, line.length() - line.stripLeading().length());
            boolean starts = line.endsWith(") {") && (space.length() == 4 || space.length() == 8)
                && !line.strip().matches("(if|for|while|switch|\\}).*");
            if (head < 0 && starts) {
                head = i;
                indent = space;
            } else if (head >= 0 && line.equals(indent + "}")) {
                c.so("length of " + lines[head].strip(), i - head < 60);
                head = -1;
            }
        }
        c.due("all methods end", head, -1);
    }
}
