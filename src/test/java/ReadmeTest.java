import java.io.ByteArrayOutputStream;
import java.io.IOException;
import java.io.PrintStream;
import java.lang.reflect.Method;
import java.lang.reflect.Modifier;
import java.net.URL;
import java.net.URLClassLoader;
import java.nio.file.Files;
import java.nio.file.Path;
import java.util.regex.Matcher;
import java.util.regex.Pattern;
import javax.tools.ToolProvider;

/** README.md holds: its example compiles and prints what the page says, and every call has its place there. */
final class ReadmeTest {
    public static void main(String[] args) throws Exception {
        Check c = new Check("ReadmeTest");
        String page = Files.readString(Path.of("README.md"));
        String told = block(page, "text");
        String got = printed(c, block(page, "java"));
        c.so("the example prints what the page says, but printed\n" + got, !got.isEmpty() && got.equals(told));
        for (Method m : SweetWaits.class.getDeclaredMethods()) {
            if (Modifier.isPublic(m.getModifiers())) {
                c.so("the page names " + m.getName(), page.contains("`" + m.getName() + "`"));
            }
        }
        c.so("the page says how the tests are run", page.contains("bash .ci/run"));
        c.end();
    }

    private static String block(String page, String kind) {
        Matcher m = Pattern.compile("```" + kind + "\n(.*?)```", Pattern.DOTALL).matcher(page);
        return m.find() ? m.group(1) : "";
    }

    /** What the example prints; nothing, if it does not compile. */
    private static String printed(Check c, String program) throws Exception {
        Path work = Files.createTempDirectory("readme");
        Path file = Files.writeString(work.resolve("Example.java"), program);
        String here = System.getProperty("java.class.path");
        int code = ToolProvider.getSystemJavaCompiler()
            .run(null, null, null, "-Xlint:all", "-Werror", "-cp", here, "-d", work.toString(), file.toString());
        c.due("compiling the example", code, 0);
        String out = code == 0 ? run(work) : "";
        Files.deleteIfExists(work.resolve("Example.class"));
        Files.deleteIfExists(file);
        Files.deleteIfExists(work);
        return out;
    }

    private static String run(Path work) throws IOException, ReflectiveOperationException {
        PrintStream was = System.out;
        ByteArrayOutputStream bytes = new ByteArrayOutputStream();
        try (URLClassLoader loader = new URLClassLoader(new URL[] {work.toUri().toURL()})) {
            Method main = loader.loadClass("Example").getMethod("main", String[].class);
            System.setOut(new PrintStream(bytes, true));
            main.invoke(null, (Object) new String[0]);
        } finally {
            System.setOut(was);
        }
        return bytes.toString().replace("\r\n", "\n");
    }
}
