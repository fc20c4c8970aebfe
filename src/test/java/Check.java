/** What every test does: compares answers with those that are due, and ends with 1 if one was wrong. */
final class Check {
    private final String name;
    private int asked = 0;
    private int wrong = 0;

    Check(String name) {
        this.name = name;
    }

    void due(String call, long got, long want) {
        asked++;
        if (got != want) {
            wrong++;
            System.out.println(name + ": " + call + " answered " + got + ", due is " + want);
        }
    }

    void so(String what, boolean is) {
        due(what, is ? 1 : 0, 1);
    }

    void end() {
        System.out.println(name + ": " + asked + " answers, " + wrong + " wrong");
        if (wrong > 0) {
            System.exit(1);
        }
    }

    /** Feeds bytes: each char of a text is one. */
    static void tape(SweetWaits x, String bytes) {
        int had = x.count(5);
        for (int at = 0; at < bytes.length(); at += 20) {
            int[] five = new int[5];
            for (int i = 0; i < 20; i++) {
                int b = at + i < bytes.length() ? bytes.charAt(at + i) & 255 : 0;
                five[i / 4] = five[i / 4] << 8 | b;
            }
            x.feed(five[0], five[1], five[2], five[3], five[4]);
        }
        x.end(had + bytes.length());
    }

    /** Reads a TEXT: its number, or what it was refused by. */
    static int text(SweetWaits x, String text) {
        tape(x, text);
        return x.text();
    }
}
