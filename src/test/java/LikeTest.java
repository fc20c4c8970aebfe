/** Promise 42: what may be told of one child by those like it. */
final class LikeTest {
    public static void main(String[] args) {
        Check c = new Check("LikeTest");
        SweetWaits x = new SweetWaits();
        int[][] kids = {{1, 3, 150, 0, 5}, {1, 3, 50, 0, 6}, {1, 3, 120, 1, 5}, {1, 4, 20, 1, 4}, {2, 3, 99, 0, -1},
            {1, 3, 0, 3, 9}};
        for (int i = 0; i < kids.length; i++) {
            x.child(kids[i][0], kids[i][1], 0, 0, 0, 0);
            x.minute(i, kids[i][2], kids[i][3]);
            x.later(i, 0, kids[i][4]);
        }
        int[][] want = {{5, 1, 2, 4, 2}, {4, 1, 1, 4, 2}, {4, 1, 2, 3, 2}, {3, 1, 1, 3, 2}};
        for (int facts = 0; facts < 4; facts++) {
            for (int what = 0; what < 5; what++) {
                c.due("like(0, " + facts + ", " + what + ")", x.like(0, facts, what), want[facts][what]);
            }
        }
        c.due("nobody", x.like(4, 255, 0), 0);
        c.due("not found", x.like(4, 0, 4), -1);
        c.due("others of it", x.like(4, 0, 3), 5);
        c.due("nobody has more", x.like(5, 0, 4), 0);
        x.terms(1, 1);
        c.due("of another thing", x.like(0, 0, 4), -1);
        c.due("of another thing", x.like(0, 0, 3), 0);
        c.due("no such what", x.like(0, 0, 5), -1);
        c.due("no such what", x.like(0, 0, -1), -1);
        c.due("no such facts", x.like(0, 256, 0), -1);
        c.due("no such facts", x.like(0, -1, 0), -1);
        c.due("no such child", x.like(6, 0, 0), -1);
        c.due("no such child", x.like(-1, 0, 0), -1);
        c.end();
    }
}
