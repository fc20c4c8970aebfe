/** Boundaries of Terms I and of promises 1 .. 9. */
final class EdgesOfChildren {
    private static final int LOW = Integer.MIN_VALUE;
    private static final int HIGH = Integer.MAX_VALUE;
    private static final int[] MOST = {5, 9, 9, 9, 7, 23, 9, 9};

    private EdgesOfChildren() {
    }

    static void run(Edges e) {
        newObject(e);
        howMany(e);
        ranges(e);
        atFirst(e);
        refusals(e);
        firstRefusal(e);
        longAndShort(e);
        child(e);
        fact(e);
        promise(e);
        dealt(e);
        minute(e);
        later(e);
        of(e);
        terms(e);
        calls(e);
    }

    private static void newObject(Edges e) {
        e.by("V", "`NONE = -1`: There is none.");
        e.due("NONE", SweetWaits.NONE, -1);
        e.by("1", "No CHILDREN, TEXTS.");
        Edges.kids(3).image(0);
        SweetWaits x = new SweetWaits();
        e.due("children", x.count(0), 0);
        e.due("texts", x.count(1), 0);
        e.due("child 0", x.of(0, 0), -1);
        e.due("child 0", x.dealt(0, 0), -2);
        e.due("text 0", x.run(0, 0), -2);
        e.due("text 0", x.group(0, 0), -1);
        e.due("all", x.group(-1, 0), 0);
        e.due("the first child", x.child(0, 0, 0, 0, 0, 0), 0);
        e.due("the first text", Check.text(x, "in"), 0);
    }

    private static void howMany(Edges e) {
        e.by("I", "CHILDREN 0 .. 119 (120 at most)");
        SweetWaits x = Edges.kids(119);
        e.due("119 are not there yet", x.dealt(119, 0), -2);
        e.due("the 120th", x.child(1, 0, 0, 0, 0, 0), 119);
        e.due("119 is there", x.dealt(119, 1), 0);
        e.due("it is itself", x.of(119, 0), 1);
        e.due("the 121st", x.child(2, 0, 0, 0, 0, 0), -5);
        e.due("120 is not there", x.dealt(120, 1), -2);
        e.due("count", x.count(0), 120);
        e.due("the last one stays", x.of(119, 0), 1);
        e.due("the first one stays", x.of(0, 0), 0);
    }

    private static void ranges(Edges e) {
        String[] said = {"0 HOUSE 0 .. 5", "1 WIT 0 .. 9", "2 LIKES 0 .. 9", "3 HUNGRY 0 .. 9", "4 NURSERY 0 .. 7",
            "5 WAY 0 .. 23 (of doing it)", "6 KEPT, 7 BROKEN 0 .. 9 each (promises to it, none at first)",
            "6 KEPT, 7 BROKEN 0 .. 9 each (promises to it, none at first)"};
        for (int fact = 0; fact < 8; fact++) {
            e.by("I", said[fact]);
            SweetWaits x = Edges.kids(1);
            e.due("below", x.fact(0, fact, -1), -1);
            e.due("at first", x.of(0, fact), 0);
            e.due("the most", x.fact(0, fact, MOST[fact]), 0);
            e.due("above", x.fact(0, fact, MOST[fact] + 1), -1);
            e.due("it stays", x.of(0, fact), MOST[fact]);
            e.due("the least", x.fact(0, fact, 0), MOST[fact]);
            e.due("it is", x.of(0, fact), 0);
            for (int other = 0; other < 8; other++) {
                e.due("the others stay", x.of(0, other), 0);
            }
        }
    }

    private static void atFirst(Edges e) {
        SweetWaits x = Edges.kids(1);
        e.by("I", "or is not TRIED yet (at first)");
        e.due("how", x.of(0, 10), 3);
        e.due("tenths", x.of(0, 9), 0);
        e.due("side", x.of(0, 15), 0);
        e.due("tried", x.count(2), 0);
        e.due("gone", x.count(3), 0);
        e.by("I", "DEALT by lot is a promise kept to it (1), broken (2), or none (0, at first)");
        e.due("dealt", x.of(0, 8), 0);
        e.due("below", x.dealt(0, -1), -1);
        e.due("the most", x.dealt(0, 2), 0);
        e.due("above", x.dealt(0, 3), -1);
        e.due("none", x.dealt(0, 0), 2);
        e.due("promises are others", x.of(0, 6) + x.of(0, 7), 0);
        e.by("I", "LATER things 0 .. 3 of it: 0 .. 999, or not FOUND (at first)");
        for (int thing = 0; thing < 4; thing++) {
            e.due("not found", x.of(0, 11 + thing), -1);
            e.due("nobody is found", x.count(4), 0);
            x.terms(1, thing);
            e.due("0 is found", x.later(0, thing, 0), -1);
            e.due("one is found", x.count(4), 1);
            e.due("999", x.later(0, thing, 999), 0);
            e.due("1000", x.later(0, thing, 1000), -1);
            e.due("it stays", x.later(0, thing, -1), 999);
            e.due("it is not found again", x.count(4), 0);
        }
    }

    private static void refusals(Edges e) {
        e.by("I", "-1 a number that can't be");
        SweetWaits x = Edges.kids(1);
        e.due("can't be", x.fact(0, 0, 6), -1);
        e.due("can be", x.fact(0, 0, 5), 0);
        e.by("I", "-2 there is no such CHILD, TEXT, IMAGE");
        e.due("no child", x.fact(1, 0, 0), -2);
        e.due("a child", x.fact(0, 0, 0), 5);
        e.due("no text", x.run(0, 0), -2);
        Check.text(x, "chance 99");
        e.due("a text", x.run(0, 0), 0);
        e.due("no image", x.back(0), -2);
        x.image(0);
        e.due("an image", x.back(0), 0);
        e.by("I", "-3 it can't be by what stands");
        x.fact(0, 6, 8);
        e.due("it can", x.promise(0, 1), 9);
        e.due("it can't", x.promise(0, 1), -3);
        e.by("I", "-5 no room");
        for (int i = 1; i < 119; i++) {
            x.child(0, 0, 0, 0, 0, 0);
        }
        e.due("room", x.child(0, 0, 0, 0, 0, 0), 119);
        e.due("no room", x.child(0, 0, 0, 0, 0, 0), -5);
        for (int i = 1; i < 9; i++) {
            Check.text(x, "in");
        }
        e.due("room", Check.text(x, "in"), 9);
        e.due("no room", Check.text(x, "in"), -5);
        e.by("I", "-6 a TEXT, a ROW that can't be");
        x.back(0);
        e.due("a text that can't be", Check.text(x, "on"), -6);
        e.due("one that can", Check.text(x, "in"), 1);
        e.due("a row that can't be", x.row(0), -6);
        x.feed(0, 0, 0, 0, 0);
        e.due("one that can", x.row(0), 0);
    }

    private static void firstRefusal(Edges e) {
        e.by("I", "The first of these in that order");
        SweetWaits x = Edges.kids(120);
        e.due("child: -1 ahead of -5", x.child(6, 0, 0, 0, 0, 0), -1);
        e.due("child: -5", x.child(5, 0, 0, 0, 0, 0), -5);
        e.due("fact: -1 ahead of -2", x.fact(120, 0, 6), -1);
        e.due("fact: -1 ahead of -2", x.fact(120, 8, 0), -1);
        e.due("fact: -2", x.fact(120, 0, 5), -2);
        x.fact(0, 6, 9);
        e.due("promise: -1 ahead of -2", x.promise(120, 2), -1);
        e.due("promise: -1 ahead of -3", x.promise(0, 2), -1);
        e.due("promise: -2", x.promise(120, 1), -2);
        e.due("promise: -3", x.promise(0, 1), -3);
        e.due("dealt: -1 ahead of -2", x.dealt(120, 3), -1);
        e.due("minute: -1 ahead of -2", x.minute(120, 1, 2), -1);
        e.due("later: -1 ahead of -2", x.later(120, 0, 1000), -1);
        e.due("row: -2 ahead of -6", x.row(120), -2);
        e.due("row: -6", x.row(119), -6);
        e.due("run: -1 ahead of -2", x.run(0, -1), -1);
        e.due("run: -2", x.run(0, 0), -2);
        e.due("back: -1", x.back(2), -1);
        e.due("back: -2", x.back(1), -2);
        e.due("text: -6", x.text(), -6);
        for (int i = 0; i < 10; i++) {
            Check.text(x, "in");
        }
        e.due("text: -5 ahead of -6", x.text(), -5);
        e.due("all by -1", x.count(6), 10);
        e.due("all by -2", x.count(7), 5);
        e.due("all by -3", x.count(8), 1);
        e.due("all by -5", x.count(9), 2);
        e.due("all by -6", x.count(10), 2);
    }

    private static void longAndShort(Edges e) {
        e.by("I", "a TRIED CHILD is LONG, if it waited so many TENTHS at least");
        SweetWaits x = Edges.kids(1);
        int[] at = {100, 1, 0, 200};
        for (int tenths : at) {
            x.terms(0, tenths);
            x.minute(0, tenths, 0);
            e.due("took it then", x.of(0, 15), 1);
            x.minute(0, tenths, 1);
            e.due("was cut off then", x.of(0, 15), 1);
            e.due("one is long", x.group(-1, 3), 1);
            if (tenths > 0) {
                x.minute(0, tenths - 1, 0);
                e.due("took it ahead", x.of(0, 15), 2);
            }
        }
        e.by("I", "SHORT, if it TOOK it ahead of that; one CUT OFF ahead of that is neither");
        x.terms(0, 1);
        x.minute(0, 0, 0);
        e.due("took it ahead", x.of(0, 15), 2);
        e.due("one is short", x.group(-1, 4), 1);
        x.minute(0, 0, 1);
        e.due("cut off ahead", x.of(0, 15), 0);
        e.due("none is short", x.group(-1, 4), 0);
        e.due("none is long", x.group(-1, 3), 0);
        x.terms(0, 0);
        e.due("no longer ahead", x.of(0, 15), 1);
        x.minute(0, 0, 2);
        e.due("had to go", x.of(0, 15), 0);
        x.minute(0, 0, 3);
        e.due("not tried", x.of(0, 15), 0);
        e.due("none is long", x.group(-1, 3), 0);
        x.terms(0, 200);
        x.minute(0, 0, 2);
        e.due("had to go", x.of(0, 15), 0);
    }

    private static void child(Edges e) {
        e.by("2", "A CHILD (FACTS 0 .. 5): its number.");
        SweetWaits x = new SweetWaits();
        e.due("the least", x.child(0, 0, 0, 0, 0, 0), 0);
        e.due("the most", x.child(5, 9, 9, 9, 7, 23), 1);
        for (int fact = 0; fact < 6; fact++) {
            e.due("least", x.of(0, fact), 0);
            e.due("most", x.of(1, fact), MOST[fact]);
        }
        e.by("2", "-1");
        int[] odd = {-1, LOW, HIGH};
        for (int fact = 0; fact < 6; fact++) {
            for (int i = -1; i < odd.length; i++) {
                int[] f = {1, 1, 1, 1, 1, 1};
                f[fact] = i < 0 ? MOST[fact] + 1 : odd[i];
                e.due("fact " + fact + " " + f[fact], x.child(f[0], f[1], f[2], f[3], f[4], f[5]), -1);
            }
        }
        e.due("none came", x.count(0), 2);
        e.due("the next one", x.child(1, 1, 1, 1, 1, 1), 2);
        e.by("2", "-5");
        SweetWaits full = Edges.kids(120);
        e.due("status of the 120th", full.status(), 0);
        e.due("one more", full.child(0, 0, 0, 0, 0, 0), -5);
        e.due("status", full.status(), -5);
        e.due("again", full.child(0, 0, 0, 0, 0, 0), -5);
        e.due("count", full.count(0), 120);
    }

    private static void fact(Edges e) {
        e.by("3", "A FACT of a CHILD: what it was.");
        SweetWaits x = Edges.kids(2);
        for (int fact = 0; fact < 8; fact++) {
            e.due("was", x.fact(1, fact, MOST[fact]), 0);
            e.due("was", x.fact(1, fact, MOST[fact] - 1), MOST[fact]);
            e.due("is", x.of(1, fact), MOST[fact] - 1);
            e.due("the other child", x.of(0, fact), 0);
        }
        e.by("3", "-1");
        for (int fact : new int[] {-1, 8, LOW, HIGH}) {
            e.due("no fact " + fact, x.fact(0, fact, 0), -1);
        }
        for (int fact = 0; fact < 8; fact++) {
            for (int value : new int[] {-1, MOST[fact] + 1, LOW, HIGH}) {
                e.due("fact " + fact + " " + value, x.fact(1, fact, value), -1);
            }
            e.due("it stays", x.of(1, fact), MOST[fact] - 1);
        }
        e.by("3", "-2");
        for (int child : new int[] {-1, 2, 119, 120, LOW, HIGH}) {
            e.due("no child " + child, x.fact(child, 0, 0), -2);
        }
        e.due("the last one", x.fact(1, 0, 0), 4);
    }

    private static void promise(Edges e) {
        e.by("4", "A promise to a CHILD was kept (1) or broken (0): how many of these now.");
        SweetWaits x = Edges.kids(2);
        e.due("kept", x.promise(0, 1), 1);
        e.due("broken", x.promise(0, 0), 1);
        e.due("kept", x.promise(0, 1), 2);
        e.due("kept", x.of(0, 6), 2);
        e.due("broken", x.of(0, 7), 1);
        e.due("the other child", x.of(1, 6) + x.of(1, 7), 0);
        e.by("4", "-1");
        for (int kept : new int[] {-1, 2, LOW, HIGH}) {
            e.due("no " + kept, x.promise(0, kept), -1);
        }
        e.due("kept", x.of(0, 6), 2);
        e.by("4", "-2");
        for (int child : new int[] {-1, 2, 120, LOW, HIGH}) {
            e.due("no child " + child, x.promise(child, 1), -2);
            e.due("no child " + child, x.promise(child, 0), -2);
        }
        e.by("4", "-3 there are nine");
        for (int kept = 0; kept < 2; kept++) {
            x.fact(1, 7 - kept, 8);
            e.due("the ninth", x.promise(1, kept), 9);
            e.due("the tenth", x.promise(1, kept), -3);
            e.due("status", x.status(), -3);
            e.due("nine", x.of(1, 7 - kept), 9);
        }
        x.fact(1, 6, 8);
        e.due("eight again", x.promise(1, 1), 9);
    }

    private static void dealt(Edges e) {
        e.by("5", "DEALT of a CHILD: what it was.");
        SweetWaits x = Edges.kids(2);
        e.due("was", x.dealt(1, 2), 0);
        e.due("was", x.dealt(1, 1), 2);
        e.due("was", x.dealt(1, 0), 1);
        e.due("was", x.dealt(1, 2), 0);
        e.due("the other child", x.of(0, 8), 0);
        e.by("5", "-1");
        for (int dealt : new int[] {-1, 3, LOW, HIGH}) {
            e.due("no " + dealt, x.dealt(1, dealt), -1);
        }
        e.due("it stays", x.of(1, 8), 2);
        e.by("5", "-2");
        for (int child : new int[] {-1, 2, 120, LOW, HIGH}) {
            e.due("no child " + child, x.dealt(child, 0), -2);
        }
    }

    private static void minute(Edges e) {
        e.by("I", "A CHILD TOOK it, or was CUT OFF, behind so many TENTHS 0 .. 200 of a minute");
        for (int how = 0; how < 2; how++) {
            SweetWaits one = Edges.kids(1);
            e.due("-1", one.minute(0, -1, how), -1);
            e.due("0", one.minute(0, 0, how), 3);
            e.due("200", one.minute(0, 200, how), how);
            e.due("201", one.minute(0, 201, how), -1);
            e.due("it stays", one.of(0, 9), 200);
        }
        SweetWaits x = Edges.kids(2);
        String[] said = {"A CHILD waited TENTHS and TOOK it (how 0)", "was CUT OFF (1)", "had to GO (2; TENTHS 0 then)",
            "is not TRIED (3; 0)"};
        for (int how = 0; how < 4; how++) {
            e.by("6", said[how]);
            int most = how < 2 ? 200 : 0;
            e.due("how it was", x.minute(0, 0, how), how == 0 ? 3 : how - 1);
            e.due("the most", x.minute(0, most, how), how);
            for (int tenths : new int[] {-1, most + 1, 201, LOW, HIGH}) {
                e.due(tenths + " tenths", x.minute(0, tenths, how), -1);
            }
            e.due("how", x.of(0, 10), how);
            e.due("tenths", x.of(0, 9), most);
            e.due("tried", x.count(2), how < 2 ? 1 : 0);
            e.due("gone", x.count(3), how == 2 ? 1 : 0);
            e.due("the other child", x.of(1, 10), 3);
        }
        e.by("6", "-1");
        for (int how : new int[] {-1, 4, LOW, HIGH}) {
            e.due("no how " + how, x.minute(0, 0, how), -1);
        }
        e.due("it stays", x.of(0, 10), 3);
        e.by("6", "-2");
        for (int child : new int[] {-1, 2, 120, LOW, HIGH}) {
            e.due("no child " + child, x.minute(child, 0, 0), -2);
        }
        e.by("6", "how it was");
        x.minute(1, 200, 0);
        e.due("took", x.minute(1, 0, 2), 0);
        e.due("no tenths of the wait ahead of that", x.of(1, 9), 0);
        e.due("gone", x.minute(1, 7, 1), 2);
        e.due("cut off", x.minute(1, 0, 3), 1);
        e.due("no tenths of the wait ahead of that", x.of(1, 9), 0);
    }

    private static void later(Edges e) {
        SweetWaits x = Edges.kids(2);
        e.by("7", "(NONE: not FOUND): what it was");
        e.due("not found", x.later(1, 0, -1), -1);
        e.due("that was no refusal", x.status(), 0);
        e.due("found", x.later(1, 0, 0), -1);
        e.due("that was no refusal", x.status(), 0);
        e.due("not found again", x.later(1, 0, -1), 0);
        e.due("none", x.of(1, 11), -1);
        e.due("count", x.count(6), 0);
        e.by("7", "A LATER thing of a CHILD");
        for (int thing = 0; thing < 4; thing++) {
            x.later(1, thing, 10 + thing);
        }
        for (int thing = 0; thing < 4; thing++) {
            e.due("its own", x.of(1, 11 + thing), 10 + thing);
            e.due("the other child", x.of(0, 11 + thing), -1);
        }
        e.by("7", "-1");
        for (int value : new int[] {-2, 1000, LOW, HIGH}) {
            e.due("no value " + value, x.later(1, 0, value), -1);
            e.due("refused", x.status(), -1);
        }
        for (int thing : new int[] {-1, 4, LOW, HIGH}) {
            e.due("no thing " + thing, x.later(1, thing, 5), -1);
        }
        e.due("it stays", x.of(1, 11), 10);
        e.due("nothing else is changed", x.of(1, 10), 3);
        e.due("all were refused", x.count(6), 8);
        e.by("7", "-2");
        for (int child : new int[] {-1, 2, 120, LOW, HIGH}) {
            e.due("no child " + child, x.later(child, 0, 0), -2);
        }
    }

    private static void of(Edges e) {
        SweetWaits x = Edges.kids(2);
        x.child(1, 2, 3, 4, 5, 6);
        x.fact(2, 6, 7);
        x.fact(2, 7, 8);
        x.dealt(2, 1);
        x.minute(2, 99, 0);
        for (int thing = 0; thing < 3; thing++) {
            x.later(2, thing, 20 + thing);
        }
        e.by("8", "Of a CHILD FACTS 0 .. 7, 8 DEALT, 9 TENTHS, 10 how it ended (0 .. 3)");
        int[] want = {1, 2, 3, 4, 5, 6, 7, 8, 1, 99, 0, 20, 21, 22, -1, 2};
        for (int what = 0; what <= 10; what++) {
            e.due("of " + what, x.of(2, what), want[what]);
        }
        e.by("8", "11 .. 14 LATER things (NONE)");
        for (int what = 11; what <= 14; what++) {
            e.due("of " + what, x.of(2, what), want[what]);
        }
        e.by("8", "15 1 LONG, 2 SHORT, 0 neither");
        e.due("short", x.of(2, 15), 2);
        x.minute(2, 100, 0);
        e.due("long", x.of(2, 15), 1);
        x.minute(2, 99, 1);
        e.due("neither", x.of(2, 15), 0);
        e.by("8", "NONE.");
        for (int what : new int[] {-1, 16, LOW, HIGH}) {
            e.due("of " + what, x.of(2, what), -1);
        }
        for (int child : new int[] {-1, 3, 119, 120, LOW, HIGH}) {
            e.due("no child " + child, x.of(child, 0), -1);
            e.due("no child " + child, x.of(child, 15), -1);
        }
        e.due("no refusal", x.count(6) + x.count(7), 0);
    }

    private static void terms(Edges e) {
        String[] said = {"0 LONG 0 .. 200 (100 at first)", "1 THING 0 .. 3 (0)", "2 END 1 .. 20 (15)"};
        int[] least = {0, 0, 1};
        int[] most = {200, 3, 20};
        int[] first = {100, 0, 15};
        SweetWaits x = new SweetWaits();
        for (int what = 0; what < 3; what++) {
            e.by("I", said[what]);
            e.due("below", x.terms(what, least[what] - 1), -1);
            e.due("above", x.terms(what, most[what] + 1), -1);
            e.due("at first; the least", x.terms(what, least[what]), first[what]);
            e.due("the most", x.terms(what, most[what]), least[what]);
            e.due("far below", x.terms(what, LOW), -1);
            e.due("far above", x.terms(what, HIGH), -1);
            e.due("it stays", x.terms(what, 2), most[what]);
        }
        e.by("9", "A TERM: what it was.");
        for (int what = 0; what < 3; what++) {
            e.due("each its own", x.terms(what, 1 + what), 2);
        }
        for (int what = 0; what < 3; what++) {
            e.due("each its own", x.terms(what, 1), 1 + what);
        }
        e.by("9", "-1");
        for (int what : new int[] {-1, 3, LOW, HIGH}) {
            e.due("no term " + what, x.terms(what, 1), -1);
            e.due("status", x.status(), -1);
        }
    }

    private static void calls(Edges e) {
        e.by("What it is", "An object is used for at most 512 calls after it has been made");
        SweetWaits x = Edges.kids(120);
        for (int i = 120; i < 511; i++) {
            x.minute(i % 120, i % 200, 0);
        }
        e.due("the 512th call", x.of(510 % 120, 9), 510 % 200);
    }
}
