/** Boundaries of CHANCE, LIKELY, WAITS and TRIALS: Terms III, promises 21 .. 27. */
final class EdgesOfLaws {
    private static final int LOW = Integer.MIN_VALUE;
    private static final int HIGH = Integer.MAX_VALUE;

    private EdgesOfLaws() {
    }

    static void run(Edges e) {
        chance(e);
        likelyMinutes(e);
        times(e);
        timesOfMany(e);
        likely(e);
        waits(e);
        parts(e);
        trial(e);
        fewest(e);
    }

    private static void chance(Edges e) {
        e.by("III", "of 100 what \"chance\" tells, 1 .. 99 (else the nearest), 50 without");
        String[] sums = {"0", "1", "2", "98", "99", "100", "0-1", "1000*1000*1000", "0-1000*1000*1000"};
        int[] want = {1, 1, 2, 98, 99, 99, 1, 99, 1};
        for (int i = 0; i < sums.length; i++) {
            SweetWaits x = Edges.kids(1);
            Check.text(x, "chance " + sums[i]);
            e.due("chance " + sums[i], x.chance(0, 0, 0), want[i]);
        }
        SweetWaits x = Edges.kids(2);
        Check.text(x, "waits 7");
        Check.text(x, "chance 7 if wit=1");
        Check.text(x, "chance 7/0");
        Check.text(x, "chance minute+10");
        e.due("without", x.chance(0, 0, 0), 50);
        e.due("none holds", x.chance(1, 0, 0), 50);
        e.due("it is broken", x.chance(2, 0, 0), 50);
        e.by("III", "CHANCE of a TEXT for a CHILD in a minute 0 .. 19");
        e.due("0", x.chance(3, 0, 0), 10);
        e.due("19", x.chance(3, 0, 19), 29);
        e.due("20", x.chance(3, 0, 20), -1);
        e.due("-1", x.chance(3, 0, -1), -1);
        e.by("21", "CHANCE of a TEXT for a CHILD in a minute.");
        x.fact(1, 1, 1);
        e.due("the other text for the other child", x.chance(1, 1, 19), 7);
        e.due("for this one", x.chance(1, 0, 19), 50);
        e.due("for the other one", x.chance(1, 1, 0), 7);
        e.by("21", "NONE.");
        for (int minute : new int[] {-1, 20, LOW, HIGH}) {
            e.due("no minute " + minute, x.chance(0, 0, minute), -1);
        }
        for (int child : new int[] {-1, 2, 120, LOW, HIGH}) {
            e.due("no child " + child, x.chance(0, child, 0), -1);
        }
        for (int text : new int[] {-1, -2, 4, 10, LOW, HIGH}) {
            e.due("no text " + text, x.chance(text, 0, 0), -1);
        }
        e.due("the last ones", x.chance(3, 1, 19), 29);
        e.due("no refusal", x.count(6) + x.count(7) + x.status(), 0);
    }

    /** How many times as likely "chance 2" is for one child as "chance 2", but 51 in a minute; if less so, turned. */
    private static int share(int tenths, int how, int m) {
        SweetWaits x = Edges.waiting(new int[][] {{tenths, how}});
        Check.text(x, "chance 2");
        Check.text(x, "chance 2;chance 51 if minute=" + m);
        int more = x.times(0, 1, -1);
        return more > 0 ? more : -x.times(1, 0, -1);
    }

    private static void likelyMinutes(Edges e) {
        e.by("III", "for each whole minute it waited (TENTHS through 10, cut; 20 at most)");
        // 98/49 for a minute that it waited, 2/51 (25 times less likely) for one in which it took it, 1 else.
        e.due("no whole minute", share(9, 1, 0), 1);
        e.due("one", share(10, 1, 0), 2);
        e.due("not another", share(19, 1, 1), 1);
        e.due("another", share(20, 1, 1), 2);
        e.due("19", share(199, 1, 18), 2);
        e.due("not the last", share(199, 1, 19), 1);
        e.due("the last", share(200, 1, 19), 2);
        e.by("III", "and, if it TOOK it ahead of 200 TENTHS, of CHANCE in the minute then");
        e.due("at 0", share(0, 0, 0), -25);
        e.due("at 9", share(9, 0, 0), -25);
        e.due("at 9, not in minute 1", share(9, 0, 1), 1);
        e.due("at 10, minute 0 was waited", share(10, 0, 0), 2);
        e.due("at 10, in minute 1", share(10, 0, 1), -25);
        e.due("at 199", share(199, 0, 19), -25);
        e.due("at 200 minute 19 was waited", share(200, 0, 19), 2);
        e.due("cut off at 0", share(0, 1, 0), 1);
        e.due("cut off at 199", share(199, 1, 19), 1);
        e.by("III", "LIKELY is a TEXT for a GROUP by the product, over its TRIED ones");
        e.due("had to go", share(0, 2, 0), 1);
        e.due("not tried", share(0, 3, 0), 1);
    }

    /** One child who waited some minutes, and laws by what each leaves of 100 in these. */
    private static SweetWaits laws(int minutes, int[]... left) {
        SweetWaits x = Edges.waiting(new int[][] {{10 * minutes, 1}});
        for (int[] law : left) {
            StringBuilder b = new StringBuilder();
            for (int m = 0; m < law.length; m++) {
                b.append(m > 0 ? ";" : "").append("chance ").append(100 - law[m]).append(" if minute=").append(m);
            }
            Check.text(x, b.toString());
        }
        return x;
    }

    private static void times(Edges e) {
        e.by("III", "how many times as LIKELY one is as another one, cut, 1,000,000 at most");
        SweetWaits x = laws(4, new int[] {99, 99, 37, 91}, new int[] {1, 1, 1, 33});
        e.due("999,999", x.times(0, 1, -1), 999999);
        e.due("back", x.times(1, 0, -1), 0);
        x = laws(4, new int[] {99, 99, 37, 90}, new int[] {1, 1, 1, 33});
        e.due("a little less: 989,010", x.times(0, 1, -1), 989010);
        x = laws(3, new int[] {80, 75, 50}, new int[] {1, 1, 1});
        e.due("300,000", x.times(0, 1, -1), 300000);
        x = laws(4, new int[] {80, 50, 50, 5}, new int[] {1, 1, 1, 1});
        e.due("a million", x.times(0, 1, -1), 1000000);
        x = laws(4, new int[] {80, 50, 50, 10}, new int[] {1, 1, 1, 1});
        e.due("two million", x.times(0, 1, -1), 1000000);
        x = laws(8, new int[] {50, 50, 50, 50, 50, 50, 50, 50}, new int[] {10, 10, 10, 10, 10, 10, 10, 10});
        e.due("5 to the eighth", x.times(0, 1, -1), 390625);
        e.due("back", x.times(1, 0, -1), 0);
        x = laws(2, new int[] {60, 60}, new int[] {40, 90}, new int[] {59, 61}, new int[] {30, 60}, new int[] {30, 61});
        e.due("the same by others", x.times(0, 1, -1), 1);
        e.due("just less", x.times(2, 0, -1), 0);
        e.due("just more", x.times(0, 2, -1), 1);
        e.due("just twice", x.times(0, 3, -1), 2);
        e.due("not quite twice", x.times(0, 4, -1), 1);
        // 2 to the 30th, and next to it on either side.
        SweetWaits y = laws(5, new int[] {64, 64, 64, 64, 64}, new int[] {50, 62, 82, 44, 96}, new int[] {57, 57, 58, 74, 77});
        e.due("1024 more", y.times(0, 1, -1), 1);
        e.due("1024 less", y.times(1, 0, -1), 0);
        e.due("692 less", y.times(0, 2, -1), 0);
        e.due("692 more", y.times(2, 0, -1), 1);
        e.due("the most likely", y.likely(-1), 2);
        e.due("weighed anew", y.times(0, 1, -1), 1);
        e.by("22", "NONE.");
        for (int text : new int[] {-1, -2, 5, LOW, HIGH}) {
            e.due("no text " + text, x.times(text, 0, -1), -1);
            e.due("no other " + text, x.times(0, text, -1), -1);
        }
        for (int group : new int[] {-2, 5, LOW, HIGH}) {
            e.due("no group " + group, x.times(0, 0, group), -1);
        }
        e.due("the last one", x.times(4, 4, -1), 1);
        e.due("of none", x.times(0, 4, 0), 1);
    }

    /** All that an object can have: 120 children of 20 minutes each. */
    private static void timesOfMany(Edges e) {
        e.by("22", "TIMES for a GROUP.");
        SweetWaits x = Edges.kids(120);
        for (int i = 0; i < 120; i++) {
            x.minute(i, 200, 1);
        }
        x.fact(119, 1, 1);
        // 99*80 is 90*88, ten times in each of 120 children; of the last one 91*88 in place of that once; 45, 99, 1.
        Check.text(x, "chance 1;chance 20 if minute/2*2=minute");
        Check.text(x, "chance 10;chance 12 if minute/2*2=minute");
        Check.text(x, "chance 10;chance 12 if minute/2*2=minute;chance 9 if wit=1 and minute=19");
        Check.text(x, "chance 10;chance 12 if minute/2*2=minute;chance 55 if wit=1 and minute=19");
        Check.text(x, "chance 1");
        Check.text(x, "chance 99;in if wit=1");
        e.due("alike", x.times(0, 1, -1), 1);
        e.due("alike", x.times(1, 0, -1), 1);
        e.due("a little less", x.times(0, 2, -1), 0);
        e.due("a little more", x.times(2, 0, -1), 1);
        e.due("just twice", x.times(0, 3, -1), 2);
        e.due("a half", x.times(3, 0, -1), 0);
        e.due("far more", x.times(4, 5, -1), 1000000);
        e.due("far less", x.times(5, 4, -1), 0);
        e.due("of one alike", x.times(0, 1, 5), 1);
        e.due("of one twice", x.times(0, 3, 5), 2);
        nextToAlike(e);
        e.by("23", "The TEXT that is most LIKELY for a GROUP (the lowest)");
        e.due("99 each", x.likely(-1), 4);
        e.due("weighed anew", x.times(1, 0, -1), 1);
        SweetWaits y = Edges.kids(120);
        for (int i = 0; i < 120; i++) {
            y.minute(i, 200, 1);
        }
        y.fact(119, 1, 1);
        Check.text(y, "chance 99");
        Check.text(y, "chance 1;chance 20 if minute/2*2=minute");
        Check.text(y, "chance 10;chance 12 if minute/2*2=minute");
        e.due("the lowest of alike ones", y.likely(-1), 1);
        Check.text(y, "chance 10;chance 12 if minute/2*2=minute;chance 9 if wit=1 and minute=19");
        e.due("a little more", y.likely(-1), 3);
        Check.text(y, "chance 1;chance 20 if minute/2*2=minute;chance 2 if wit=1 and minute=19");
        e.due("a little less", y.likely(-1), 3);
    }

    /** Products of 2400 factors each that differ by one in 7920: 89*89 and 88*90, which is 99*80. */
    private static void nextToAlike(Edges e) {
        SweetWaits x = Edges.kids(120);
        for (int i = 0; i < 120; i++) {
            x.minute(i, 200, 1);
        }
        x.fact(119, 1, 1);
        Check.text(x, "chance 1;chance 20 if minute/2*2=minute");
        Check.text(x, "chance 10;chance 12 if minute/2*2=minute;chance 11 if wit=1 and minute<2");
        e.due("the more likely", x.likely(-1), 1);
        e.due("one in 7920 less", x.times(0, 1, -1), 0);
        e.due("one in 7920 more", x.times(1, 0, -1), 1);
    }

    private static void likely(Edges e) {
        e.by("23", "; NONE.");
        SweetWaits x = Edges.waiting(new int[][] {{10, 1}, {0, 0}});
        e.due("no text", x.likely(-1), -1);
        Check.text(x, "chance 60;in if waited=0");
        e.due("one text", x.likely(-1), 0);
        Check.text(x, "chance 40;in if waited=10");
        Check.text(x, "chance 40");
        for (int group : new int[] {-2, 3, LOW, HIGH}) {
            e.due("no group " + group, x.likely(group), -1);
        }
        e.due("of all: 40*60 either way, the lowest", x.likely(-1), 0);
        e.due("of the one who took it", x.likely(0), 0);
        e.due("of the one cut off, the lowest", x.likely(1), 1);
        e.due("of nobody: all alike", x.likely(2), 0);
        e.due("no refusal", x.count(6) + x.count(7) + x.status(), 0);
    }

    private static void waits(Edges e) {
        e.by("III", "what \"waits\" tells, 0 .. 10 times END (else the nearest), 0 without");
        SweetWaits x = Edges.kids(1);
        String[] sums = {"0", "1", "0-1", "149", "150", "151", "1000*1000*1000", "0-1000*1000*1000"};
        int[] want = {0, 1, 0, 149, 150, 150, 150, 0};
        for (int i = 0; i < sums.length; i++) {
            Check.text(x, "waits " + sums[i]);
            e.due("waits " + sums[i], x.waits(i, 0), want[i]);
        }
        x.terms(2, 1);
        e.due("1 of 10", x.waits(1, 0), 1);
        e.due("149 of 10", x.waits(3, 0), 10);
        x.terms(2, 20);
        e.due("151 of 200", x.waits(5, 0), 151);
        e.due("200", x.waits(6, 0), 200);
        Check.text(x, "chance 7");
        Check.text(x, "waits 7 if wit=1");
        e.due("without", x.waits(8, 0), 0);
        e.due("none holds", x.waits(9, 0), 0);
        e.by("24", "NONE.");
        for (int child : new int[] {-1, 1, 120, LOW, HIGH}) {
            e.due("no child " + child, x.waits(1, child), -1);
        }
        for (int text : new int[] {-1, -2, 10, LOW, HIGH}) {
            e.due("no text " + text, x.waits(text, 0), -1);
        }
        e.due("the last text", x.waits(9, 0), 0);
    }

    private static SweetWaits three() {
        SweetWaits x = new SweetWaits();
        x.child(0, 1, 0, 0, 0, 5);
        x.child(0, 2, 0, 0, 0, 6);
        x.child(0, 3, 0, 0, 0, 7);
        x.dealt(2, 2);
        Check.text(x, "waits 10*wit;in if way=7 and dealt=2");
        Check.text(x, "waits 20+way*dealt");
        Check.text(x, "chance 9");
        return x;
    }

    private static void parts(Edges e) {
        e.by("III", "a CHILD in it has these in place of its own");
        SweetWaits x = three();
        // 10, 20, 30 against 20 + way * dealt.
        e.due("way 0", x.parts(0, 1, -1, 0, 2), 20);
        e.due("dealt 0", x.parts(0, 1, -1, 23, 0), 20);
        e.due("the most of both", x.parts(0, 1, -1, 23, 2), 56 + 46 + 36);
        e.due("its own stay", x.of(2, 5) * 10 + x.of(2, 8), 72);
        e.due("the group is by its own", x.parts(0, 1, 0, 23, 2), 36);
        e.by("III", "by the difference of its WAITS by both, without sign");
        e.due("turned", x.parts(1, 0, -1, 23, 2), 138);
        e.due("itself", x.parts(1, 1, -1, 23, 2), 0);
        x.terms(2, 2);
        e.due("by what is nearest: 10, 20, 20 against 20", x.parts(0, 1, -1, 23, 2), 10);
        e.by("25", "NONE.");
        for (int way : new int[] {-1, 24, LOW, HIGH}) {
            e.due("no way " + way, x.parts(0, 1, -1, way, 0), -1);
        }
        for (int dealt : new int[] {-1, 3, LOW, HIGH}) {
            e.due("no dealt " + dealt, x.parts(0, 1, -1, 0, dealt), -1);
        }
        for (int text : new int[] {-1, -2, 3, LOW, HIGH}) {
            e.due("no text " + text, x.parts(text, 1, -1, 0, 0), -1);
            e.due("no other " + text, x.parts(0, text, -1, 0, 0), -1);
        }
        for (int group : new int[] {-2, 3, LOW, HIGH}) {
            e.due("no group " + group, x.parts(0, 1, group, 0, 0), -1);
        }
        e.due("the least", x.parts(0, 1, -1, 0, 0), 10);
        e.by("25", "How much a TRIAL PARTS all of a GROUP by two TEXTS together.");
        e.due("of nobody", x.parts(0, 1, 2, 0, 0), 0);
        SweetWaits y = Edges.kids(120);
        y.terms(2, 20);
        Check.text(y, "waits 1000");
        Check.text(y, "in");
        e.due("all that can be", y.parts(0, 1, -1, 0, 0), 24000);
    }

    private static void trial(Edges e) {
        e.by("26", "as 3 times its WAY and its DEALT (the lowest)");
        SweetWaits x = Edges.kids(1);
        String[] laws = {"in", "waits way*3+dealt", "waits 100-way*3-dealt", "waits 50 if way=23 and dealt=2",
            "waits 50 if way=11", "waits 50 if dealt=1", "waits 50 if way>3 and dealt>0", "waits 50", "waits 80-way*way",
            "waits way/23"};
        int[] want = {0, 71, 0, 71, 33, 1, 13, 0, 0, 69};
        for (int i = 0; i < laws.length; i++) {
            x.image(0);
            Check.text(x, laws[i]);
            e.due(laws[i], x.trial(i, 0, -1), want[i]);
            e.due(laws[i] + ", turned", x.trial(0, i, -1), want[i]);
            e.due(laws[i] + ", itself", x.trial(i, i, -1), 0);
        }
        e.due("of nobody: the lowest", x.trial(1, 0, 1), 0);
        x.back(0);
        Check.text(x, "waits way");
        e.due("way alone", x.trial(9, 0, -1), 69);
        x.back(0);
        Check.text(x, "waits dealt");
        e.due("dealt alone", x.trial(9, 0, -1), 2);
        e.due("two that have the words", x.trial(1, 2, -1), 0);
        x.fact(0, 5, 23);
        x.dealt(0, 2);
        e.due("not its own", x.trial(4, 0, -1), 33);
        e.by("26", "NONE.");
        for (int text : new int[] {-1, -2, 10, LOW, HIGH}) {
            e.due("no text " + text, x.trial(text, 0, -1), -1);
            e.due("no other " + text, x.trial(0, text, -1), -1);
        }
        for (int group : new int[] {-2, 10, LOW, HIGH}) {
            e.due("no group " + group, x.trial(0, 0, group), -1);
        }
    }

    private static void fewest(Edges e) {
        e.by("III", "FEWEST: how many CHILDREN it takes at least for so much together");
        SweetWaits x = three();
        // 56, 46, 36 by way 23 and dealt 2.
        int[] much = {0, 1, 55, 56, 57, 102, 103, 138};
        int[] want = {0, 1, 1, 1, 2, 2, 3, 3};
        for (int i = 0; i < much.length; i++) {
            e.due("for " + much[i], x.fewest(0, 1, -1, 23, 2, much[i]), want[i]);
        }
        e.by("27", "NONE (all together do not)");
        e.due("all do", x.fewest(0, 1, -1, 23, 2, 138), 3);
        e.due("all do not", x.fewest(0, 1, -1, 23, 2, 139), -1);
        e.due("of one", x.fewest(0, 1, 0, 23, 2, 36), 1);
        e.due("of one", x.fewest(0, 1, 0, 23, 2, 37), -1);
        e.due("of nobody", x.fewest(0, 1, 2, 23, 2, 0), 0);
        e.due("of nobody", x.fewest(0, 1, 2, 23, 2, 1), -1);
        for (int way : new int[] {-1, 24, LOW, HIGH}) {
            e.due("no way " + way, x.fewest(0, 1, -1, way, 0, 0), -1);
        }
        for (int dealt : new int[] {-1, 3, LOW, HIGH}) {
            e.due("no dealt " + dealt, x.fewest(0, 1, -1, 0, dealt, 0), -1);
        }
        for (int text : new int[] {-1, -2, 3, LOW, HIGH}) {
            e.due("no text " + text, x.fewest(text, 1, -1, 0, 0, 0), -1);
            e.due("no other " + text, x.fewest(0, text, -1, 0, 0, 0), -1);
        }
        for (int group : new int[] {-2, 3, LOW, HIGH}) {
            e.due("no group " + group, x.fewest(0, 1, group, 0, 0, 0), -1);
        }
        e.by("27", "for so much (0 .. 100,000) together");
        e.due("0", x.fewest(0, 0, -1, 0, 0, 0), 0);
        for (int odd : new int[] {-1, 100001, LOW, HIGH}) {
            e.due("for " + odd, x.fewest(0, 1, -1, 0, 0, odd), -1);
        }
        SweetWaits y = Edges.kids(120);
        y.terms(2, 20);
        Check.text(y, "waits 1000");
        Check.text(y, "in");
        e.due("all", y.fewest(0, 1, -1, 0, 0, 24000), 120);
        e.due("all but one", y.fewest(0, 1, -1, 0, 0, 23800), 119);
        e.due("beyond all", y.fewest(0, 1, -1, 0, 0, 24001), -1);
        Check.text(y, "waits 1");
        e.due("1 each", y.fewest(2, 1, -1, 0, 0, 119), 119);
        e.due("1 each", y.fewest(2, 1, -1, 0, 0, 120), 120);
        e.due("1 each", y.fewest(2, 1, -1, 0, 0, 121), -1);
        e.due("100,000", y.fewest(0, 1, -1, 0, 0, 100000), -1);
    }
}
