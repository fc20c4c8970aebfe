/** An object with all the children and bytes that it may have: the last child counts as the others do. */
final class FullTest {
    public static void main(String[] args) {
        Check c = new Check("FullTest");
        SweetWaits x = new SweetWaits();
        for (int i = 0; i < 120; i++) {
            x.child(0, i == 119 ? 9 : 1, 0, 0, 0, i < 118 ? 0 : 23);
        }
        x.minute(119, 150, 0);
        x.minute(118, 20, 0);
        x.later(119, 0, 9);
        x.later(118, 0, 8);
        Check.text(x, "chance 1;chance 99 if wit=9;waits 10*wit;later wit;in if wit=9");
        Check.text(x, "in");
        c.due("group", x.group(0, 0), 1);
        c.due("member", x.member(0, 0), 119);
        c.due("member of all", x.member(1, 119), 119);
        c.due("chance", x.chance(0, 119, 0), 99);
        c.due("waits", x.waits(0, 119), 90);
        c.due("pairs", x.pairs(-1, 0, 0), 1);
        c.due("looked", x.looked(23), 1);
        c.due("best", x.best(), 23);
        c.due("parts", x.parts(0, 1, -1, 0, 0), 119 * 10 + 90);
        c.due("fewest", x.fewest(0, 1, -1, 0, 0, 1280), 120);
        c.due("lasts", x.lasts(-1, -1, 0), 1);
        c.due("stays", x.stays(-1, 100), 500000);
        x.terms(2, 1);
        c.so("run", x.run(0, 0) >= 0);
        c.due("takes it", x.world(119, 1), 1);
        c.due("its later", x.world(119, 2), 9);
        c.due("all later", x.world(-1, 2), 119 + 9);
        c.due("beyond", x.world(120, 0), -1);
        c.due("drawn", x.drawn(2), 0);
        c.due("drawn by nothing", x.drawn(0), x.world(-1, 1) - 120);
        c.due("like", x.like(119, 32, 0), 1);

        x.image(0);
        x.fact(119, 0, 5);
        x.back(0);
        c.due("back", x.of(119, 0), 0);
        for (int i = 0; i < 20; i++) {
            x.feed(i, 100 + i, -1 - i, 200, 5);
        }
        c.due("a row of 100", x.row(20), 0);
        c.due("of 100", x.group(-1, 1), 100);
        c.due("the last one", x.of(119, 9), 5);
        c.due("the last but one", x.of(118, 9), 200);
        c.due("the first one", x.of(20, 10), 0);
        c.due("ahead of it", x.of(19, 10), 3);
        c.end();
    }
}
