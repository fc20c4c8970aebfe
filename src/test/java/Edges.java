import java.util.ArrayList;
import java.util.LinkedHashMap;
import java.util.List;
import java.util.Map;

/** Answers at the boundaries, each under the sentence of the document that names its boundary. */
final class Edges {
    private final Check check = new Check("EdgesTest");
    private final Doc doc;
    private final Map<String, List<String>> quoted = new LinkedHashMap<>();
    private String sentence = "";
    private int answers = 1;

    Edges(Doc doc) {
        this.doc = doc;
    }

    /** The answers that follow are due by these words of a part of the document. */
    void by(String part, String words) {
        check.so("answers by " + sentence, answers > 0);
        sentence = part + ": " + words;
        answers = 0;
        check.so("the document says " + sentence, doc.says(part, words));
        quoted.computeIfAbsent(part, p -> new ArrayList<>()).add(words);
    }

    void due(String call, long got, long want) {
        answers++;
        check.due("[" + sentence + "] " + call, got, want);
    }

    void so(String what, boolean is) {
        due(what, is ? 1 : 0, 1);
    }

    /** Each part that promises has a sentence here, and so has each refusal that it names. */
    void end() {
        check.so("answers by " + sentence, answers > 0);
        int sentences = 0;
        for (String part : doc.parts()) {
            List<String> words = quoted.getOrDefault(part, List.of());
            sentences += words.size();
            if (part.matches("\\d+|[IV]+")) {
                check.so("a boundary of " + part, !words.isEmpty());
                refusals(part, words);
            }
        }
        System.out.println("EdgesTest: " + sentences + " sentences");
        check.end();
    }

    private void refusals(String part, List<String> words) {
        for (String refusal : new String[] {"-1", "-2", "-3", "-5", "-6", "NONE", "NOTHING"}) {
            String plain = "(^|[\\s(])" + refusal + "([\\s.;:,)]|$)";
            boolean named = contains(doc.of(part), plain);
            boolean tested = words.stream().anyMatch(w -> contains(w, plain));
            check.so(part + " names " + refusal + ": a sentence for it", !named || tested);
        }
    }

    private static boolean contains(String text, String pattern) {
        return java.util.regex.Pattern.compile(pattern).matcher(text).find();
    }

    /** An object with so many children who are alike. */
    static SweetWaits kids(int n) {
        SweetWaits x = new SweetWaits();
        for (int i = 0; i < n; i++) {
            x.child(0, 0, 0, 0, 0, 0);
        }
        return x;
    }

    /** The same, each with its own number as what it waited and how: {tenths, how}. */
    static SweetWaits waiting(int[]... waits) {
        SweetWaits x = kids(waits.length);
        for (int i = 0; i < waits.length; i++) {
            x.minute(i, waits[i][0], waits[i][1]);
        }
        return x;
    }
}
