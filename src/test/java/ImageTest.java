/** Promises 43, 44: images, and the way back to them. */
final class ImageTest {
    public static void main(String[] args) {
        Check c = new Check("ImageTest");
        kept(c);
        notKept(c);
        texts(c);
        refused(c);
        c.end();
    }

    private static void kept(Check c) {
        SweetWaits x = new SweetWaits();
        x.child(1, 2, 3, 4, 5, 6);
        c.due("image", x.image(0), 0);
        x.fact(0, 6, 3);
        x.dealt(0, 2);
        x.minute(0, 77, 1);
        x.later(0, 3, 44);
        x.terms(0, 50);
        x.terms(1, 3);
        x.terms(2, 9);
        x.meaning(4, 2);
        x.child(0, 0, 0, 0, 0, 0);
        x.minute(1, 10, 0);
        x.promise(1, 1);
        x.later(1, 0, 5);
        c.due("image", x.image(1), 0);
        for (int round = 0; round < 2; round++) {
            c.due("back", x.back(0), 0);
            c.due("children", x.count(0), 1);
            int[] first = {1, 2, 3, 4, 5, 6, 0, 0, 0, 0, 3, -1, -1, -1, -1, 0};
            for (int what = 0; what < 16; what++) {
                c.due("of(0, " + what + ")", x.of(0, what), first[what]);
            }
            c.due("causes", x.beside(-1, 0), 63);
            c.due("a new child has nothing of one that is gone", x.child(0, 0, 0, 0, 0, 0), 1);
            c.due("kept", x.of(1, 6), 0);
            c.due("how", x.of(1, 10), 3);
            c.due("tenths", x.of(1, 9), 0);
            c.due("later", x.of(1, 11), -1);
            c.due("LONG", x.terms(0, 1), 100);
            c.due("THING", x.terms(1, 2), 0);
            c.due("END", x.terms(2, 1), 15);
            c.due("back", x.back(1), 0);
            int[] second = {1, 2, 3, 4, 5, 6, 3, 0, 2, 77, 1, -1, -1, -1, 44, 1};
            for (int what = 0; what < 16; what++) {
                c.due("of(0, " + what + ")", x.of(0, what), second[what]);
            }
            c.due("children", x.count(0), 2);
            c.due("kept", x.of(1, 6), 1);
            c.due("meaning", x.meaning(4, 0), 2);
            c.due("LONG", x.terms(0, 1), 50);
            c.due("THING", x.terms(1, 2), 3);
            c.due("END", x.terms(2, 1), 9);
        }
    }

    private static void notKept(Check c) {
        SweetWaits x = new SweetWaits();
        x.child(0, 0, 0, 0, 0, 0);
        Check.text(x, "chance 99;later 5");
        x.image(0);
        x.run(0, 0);
        Check.text(x, "chance");
        x.feed(1, 2, 3, 4, 5);
        x.fact(9, 9, 9);
        x.back(0);
        c.due("the tape stays", x.count(5), 20);
        c.due("the fault stays", x.fault(), 6);
        c.due("the world stays", x.world(0, 2), 5);
        c.due("counts of refusals stay", x.count(6), 1);
        c.due("counts of refusals stay", x.count(10), 1);
        c.due("status is back's", x.status(), 0);
    }

    private static void texts(Check c) {
        SweetWaits x = new SweetWaits();
        x.child(0, 0, 0, 0, 0, 0);
        Check.text(x, "chance 10");
        x.image(0);
        Check.text(x, "chance 20");
        x.image(1);
        x.back(0);
        c.due("one text", x.count(1), 1);
        c.due("no such text", x.chance(1, 0, 0), -1);
        c.due("another text", Check.text(x, "chance 30"), 1);
        c.due("another text", x.chance(1, 0, 0), 30);
        x.back(1);
        c.due("two texts", x.count(1), 2);
        c.due("the text as it was", x.chance(1, 0, 0), 20);
        for (int i = 2; i < 10; i++) {
            Check.text(x, "in");
        }
        c.due("no room", Check.text(x, "in"), -5);
        x.back(0);
        c.due("room again", Check.text(x, "in"), 1);
        SweetWaits y = new SweetWaits();
        y.child(0, 0, 0, 0, 0, 0);
        y.image(0);
        Check.text(y, "chance 10");
        y.image(1);
        y.back(0);
        Check.text(y, "chance 20");
        y.back(1);
        c.due("the first text as it was", y.chance(0, 0, 0), 10);
    }

    private static void refused(Check c) {
        SweetWaits x = new SweetWaits();
        c.due("no such image", x.image(2), -1);
        c.due("no such image", x.image(-1), -1);
        c.due("not kept", x.back(0), -2);
        c.due("not kept", x.back(1), -2);
        c.due("no such image", x.back(2), -1);
        c.due("no such image", x.back(-1), -1);
        c.due("status", x.status(), -1);
        c.due("image", x.image(1), 0);
        c.due("status", x.status(), 0);
        c.due("not kept", x.back(0), -2);
        c.due("kept", x.back(1), 0);
        c.due("count(6)", x.count(6), 4);
        c.due("count(7)", x.count(7), 3);
        x.child(0, 0, 0, 0, 0, 0);
        x.image(1);
        x.child(0, 0, 0, 0, 0, 0);
        x.back(1);
        c.due("the later image", x.count(0), 1);
    }
}
