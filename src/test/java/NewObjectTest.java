/** Promise 1, and what a new object answers to all that is asked of nobody. */
final class NewObjectTest {
    public static void main(String[] args) {
        Check c = new Check("NewObjectTest");
        c.due("NONE", SweetWaits.NONE, -1);
        SweetWaits x = new SweetWaits();
        for (int what = 0; what <= 10; what++) {
            c.due("count(" + what + ")", x.count(what), 0);
        }
        c.due("count(11)", x.count(11), -1);
        c.due("count(-1)", x.count(-1), -1);
        c.due("status()", x.status(), 0);
        c.due("fault()", x.fault(), -1);
        c.due("group(-1, 0)", x.group(-1, 0), 0);
        c.due("member(-1, 0)", x.member(-1, 0), -1);
        c.due("stays(-1, 200)", x.stays(-1, 200), 1000000);
        c.due("half(-1)", x.half(-1), -1);
        c.due("right(-1, 0, 200)", x.right(-1, 0, 200), 1000000);
        c.due("goneOn(-1)", x.goneOn(-1), 0);
        c.due("likely(-1)", x.likely(-1), -1);
        c.due("times(0, 0, -1)", x.times(0, 0, -1), -1);
        c.due("trial(0, 0, -1)", x.trial(0, 0, -1), -1);
        for (int what = 0; what < 3; what++) {
            c.due("bounds(-1, " + what + ")", x.bounds(-1, what), -1);
            c.due("pairs(-1, 255, " + what + ")", x.pairs(-1, 255, what), 0);
            c.due("lasts(-1, -1, " + what + ")", x.lasts(-1, -1, what), 0);
            c.due("trust(" + what + ")", x.trust(what), 0);
            c.due("world(-1, " + what + ")", x.world(-1, what), -1);
        }
        c.due("apart(-1, -1, 0)", x.apart(-1, -1, 0), -1000000);
        c.due("beside(-1, 0)", x.beside(-1, 0), 63);
        c.due("beside(-1, 1)", x.beside(-1, 1), 0);
        c.due("beside(-1, 3)", x.beside(-1, 3), -1);
        c.due("hides(255)", x.hides(255), 0);
        c.due("looked(0)", x.looked(0), 0);
        c.due("best()", x.best(), 0);
        c.due("paid(7, 0)", x.paid(7, 0), 7);
        c.due("drawn(0)", x.drawn(0), -1000000);
        c.due("like(0, 0, 0)", x.like(0, 0, 0), -1);
        c.due("of(0, 0)", x.of(0, 0), -1);
        c.due("status() still", x.status(), 0);
        c.due("terms(0, 100)", x.terms(0, 100), 100);
        c.due("terms(1, 0)", x.terms(1, 0), 0);
        c.due("terms(2, 15)", x.terms(2, 15), 15);
        c.end();
    }
}
