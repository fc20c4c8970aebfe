/** Promises 15, 16: groups and their members. */
final class GroupTest {
    public static void main(String[] args) {
        Check c = new Check("GroupTest");
        SweetWaits x = new SweetWaits();
        for (int wit = 1; wit <= 5; wit++) {
            x.child(0, wit, 0, 0, 0, 0);
        }
        x.minute(0, 50, 0);
        x.minute(1, 120, 1);
        x.minute(2, 0, 2);
        x.minute(4, 150, 0);
        x.later(0, 0, 0);
        x.later(4, 0, 7);
        x.later(3, 1, 7);
        Check.text(x, "in if wit>1");
        Check.text(x, "chance 5");
        Check.text(x, "in if 1=2;in if wit=1;in if 1/0=1");
        Check.text(x, "in if wit=1;in if wit=5;in if wit=1");
        Check.text(x, "in if waited=0 and minute=0");
        int[][] want = {{5, 3, 1, 2, 1, 2}, {4, 2, 1, 2, 0, 1}, {0, 0, 0, 0, 0, 0}, {1, 1, 0, 0, 1, 1},
            {2, 2, 0, 1, 1, 2}, {2, 0, 0, 0, 0, 0}};
        for (int text = -1; text < 5; text++) {
            for (int what = 0; what < 6; what++) {
                c.due("group(" + text + ", " + what + ")", x.group(text, what), want[text + 1][what]);
            }
        }
        c.due("no such text", x.group(5, 0), -1);
        c.due("no such text", x.group(-2, 0), -1);
        c.due("no such what", x.group(-1, 6), -1);
        c.due("no such what", x.group(-1, -1), -1);
        x.terms(1, 1);
        c.due("found by the thing", x.group(-1, 5), 1);
        x.terms(0, 121);
        c.due("long", x.group(-1, 3), 1);
        c.due("short", x.group(-1, 4), 1);

        int[] members = {1, 2, 3, 4, -1};
        for (int i = 0; i < 5; i++) {
            c.due("member(0, " + i + ")", x.member(0, i), members[i]);
        }
        c.due("member(0, -1)", x.member(0, -1), -1);
        c.due("member(1, 0)", x.member(1, 0), -1);
        c.due("member(3, 1)", x.member(3, 1), 4);
        c.due("member(-1, 4)", x.member(-1, 4), 4);
        c.due("member(-1, 5)", x.member(-1, 5), -1);
        c.due("member(5, 0)", x.member(5, 0), -1);
        c.due("member(-2, 0)", x.member(-2, 0), -1);
        c.due("nothing was refused", x.count(6) + x.count(7), 0);
        c.end();
    }
}
