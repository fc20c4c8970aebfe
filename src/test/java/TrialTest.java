/** Promises 24 .. 27: what texts say of waits, and trials that part them. */
final class TrialTest {
    public static void main(String[] args) {
        Check c = new Check("TrialTest");
        waits(c);
        parts(c);
        trial(c);
        fewest(c);
        c.end();
    }

    private static SweetWaits two() {
        SweetWaits x = new SweetWaits();
        x.child(0, 2, 0, 0, 0, 0);
        x.child(0, 5, 0, 0, 0, 7);
        x.dealt(1, 1);
        Check.text(x, "waits 10*wit");
        Check.text(x, "waits 60+way+dealt;in if way=7 and dealt=1");
        Check.text(x, "waits 60+way/2+dealt");
        Check.text(x, "chance 5");
        return x;
    }

    private static void waits(Check c) {
        SweetWaits x = two();
        c.due("waits", x.waits(0, 1), 50);
        c.due("waits", x.waits(1, 0), 60);
        c.due("waits", x.waits(1, 1), 68);
        c.due("without", x.waits(3, 1), 0);
        x.terms(2, 6);
        c.due("the nearest", x.waits(1, 1), 60);
        x.terms(2, 1);
        c.due("the nearest", x.waits(0, 1), 10);
        c.due("no such child", x.waits(0, 2), -1);
        c.due("no such child", x.waits(0, -1), -1);
        c.due("no such text", x.waits(4, 0), -1);
        c.due("no such text", x.waits(-1, 0), -1);
    }

    private static void parts(Check c) {
        SweetWaits x = two();
        c.due("parts", x.parts(0, 1, -1, 0, 0), 50);
        c.due("parts either way", x.parts(1, 0, -1, 0, 0), 50);
        c.due("parts", x.parts(0, 1, -1, 23, 2), 100);
        c.due("of a group by its own way", x.parts(0, 1, 1, 23, 2), 35);
        c.due("of nobody", x.parts(0, 1, 0, 23, 2), 0);
        c.due("itself", x.parts(1, 1, -1, 5, 1), 0);
        x.terms(2, 6);
        c.due("by nearest ones", x.parts(0, 1, -1, 23, 2), 50);
        c.due("no such way", x.parts(0, 1, -1, 24, 0), -1);
        c.due("no such way", x.parts(0, 1, -1, -1, 0), -1);
        c.due("no such dealt", x.parts(0, 1, -1, 0, 3), -1);
        c.due("no such dealt", x.parts(0, 1, -1, 0, -1), -1);
        c.due("no such text", x.parts(4, 1, -1, 0, 0), -1);
        c.due("no such text", x.parts(0, -1, -1, 0, 0), -1);
        c.due("no such group", x.parts(0, 1, 4, 0, 0), -1);
        c.due("a child keeps its way", x.of(1, 5), 7);
        c.due("a child keeps its dealt", x.of(1, 8), 1);
    }

    private static void trial(Check c) {
        SweetWaits x = two();
        c.due("most", x.trial(0, 1, -1), 71);
        c.due("the lowest of alike ones", x.trial(0, 2, -1), 68);
        c.due("either way", x.trial(2, 0, -1), 68);
        c.due("nothing parts", x.trial(0, 0, -1), 0);
        c.due("neither has the words", x.trial(0, 3, -1), 0);
        c.due("of nobody", x.trial(0, 1, 0), 0);
        c.due("of a group", x.trial(0, 1, 1), 71);
        Check.text(x, "waits 60-20*dealt");
        c.due("dealt alone", x.trial(0, 4, -1), 0);
        c.due("dealt alone", x.trial(4, 3, -1), 0);
        Check.text(x, "waits 20+20*dealt");
        c.due("dealt alone", x.trial(5, 3, -1), 2);
        Check.text(x, "waits way*[8-way]");
        c.due("way alone", x.trial(6, 3, -1), 12);
        Check.text(x, "waits way");
        c.due("way and nothing else", x.trial(3, 7, -1), 69);
        c.due("no such text", x.trial(8, 0, -1), -1);
        c.due("no such text", x.trial(0, -1, -1), -1);
        c.due("no such group", x.trial(0, 1, 8), -1);
    }

    private static void fewest(Check c) {
        SweetWaits x = new SweetWaits();
        int[] wits = {1, 9, 0, 5, 5};
        for (int wit : wits) {
            x.child(0, wit, 0, 0, 0, 0);
        }
        Check.text(x, "waits 10*wit+way+dealt");
        Check.text(x, "chance 1;in if wit=5");
        // 13, 93, 3, 53, 53 by way 2 and dealt 1
        int[] much = {0, 1, 93, 94, 146, 147, 199, 200, 212, 213, 215};
        int[] want = {0, 1, 1, 2, 2, 3, 3, 4, 4, 5, 5};
        for (int i = 0; i < much.length; i++) {
            c.due("for " + much[i], x.fewest(0, 1, -1, 2, 1, much[i]), want[i]);
        }
        c.due("all do not", x.fewest(0, 1, -1, 2, 1, 216), -1);
        c.due("all do not", x.fewest(0, 1, -1, 2, 1, 100000), -1);
        c.due("too much", x.fewest(0, 1, -1, 2, 1, 100001), -1);
        c.due("too little", x.fewest(0, 1, -1, 2, 1, -1), -1);
        c.due("of a group", x.fewest(0, 1, 1, 2, 1, 54), 2);
        c.due("of a group", x.fewest(0, 1, 1, 2, 1, 107), -1);
        c.due("of nobody", x.fewest(0, 1, 0, 2, 1, 0), 0);
        c.due("of nobody", x.fewest(0, 1, 0, 2, 1, 1), -1);
        c.due("no such way", x.fewest(0, 1, -1, 24, 1, 0), -1);
        c.due("no such dealt", x.fewest(0, 1, -1, 0, 3, 0), -1);
        c.due("no such text", x.fewest(2, 1, -1, 0, 0, 0), -1);
        c.due("no such text", x.fewest(0, 2, -1, 0, 0, 0), -1);
        c.due("no such group", x.fewest(0, 1, 2, 0, 0, 0), -1);
        x.terms(2, 20);
        Check.text(x, "waits 200");
        c.due("200 each", x.fewest(1, 2, -1, 0, 0, 1000), 5);
        c.due("200 each", x.fewest(1, 2, -1, 0, 0, 801), 5);
        c.due("200 each", x.fewest(1, 2, -1, 0, 0, 800), 4);
        Check.text(x, "waits 1");
        c.due("1 each, the last way and dealt", x.fewest(1, 3, -1, 23, 2, 4), 4);
        c.due("1 each", x.fewest(3, 1, -1, 23, 2, 6), -1);
    }
}
