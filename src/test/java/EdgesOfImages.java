import java.lang.reflect.Method;
import java.lang.reflect.Modifier;
import java.util.List;

/** Boundaries of IMAGES, counts and status: Terms V, promises 43 .. 46. */
final class EdgesOfImages {
    private static final int LOW = Integer.MIN_VALUE;
    private static final int HIGH = Integer.MAX_VALUE;
    private static final List<String> NAMED = List.of("child", "fact", "promise", "dealt", "minute", "later", "terms",
        "row", "text", "meaning", "run", "image", "back");

    private EdgesOfImages() {
    }

    static void run(Edges e) throws Exception {
        images(e);
        keep(e);
        fullAgain(e);
        back(e);
        count(e);
        refusals(e);
        status(e);
        othersLeaveIt(e);
    }

    private static void images(Edges e) {
        e.by("V", "IMAGES 0, 1");
        SweetWaits x = Edges.kids(1);
        e.due("0", x.image(0), 0);
        x.child(0, 0, 0, 0, 0, 0);
        e.due("1", x.image(1), 0);
        x.child(0, 0, 0, 0, 0, 0);
        e.due("each its own", x.back(0) + x.count(0), 1);
        e.due("each its own", x.back(1) + x.count(0), 2);
        e.by("43", "IMAGE k is kept: 0; -1.");
        for (int k : new int[] {-1, 2, LOW, HIGH}) {
            e.due("no image " + k, x.image(k), -1);
            e.due("status", x.status(), -1);
        }
        x.image(0);
        e.due("kept anew", x.back(0) + x.count(0), 2);
        e.by("V", "(IMAGES stay)");
        for (int i = 0; i < 3; i++) {
            e.due("back", x.back(0), 0);
            e.due("as it was", x.count(0), 2);
            x.child(0, 0, 0, 0, 0, 0);
            x.fact(0, 0, 1 + i);
            e.due("as it is", x.count(0), 3);
        }
        x.back(0);
        e.due("no change reached it", x.of(0, 0), 0);
        e.due("the other one", x.back(1) + x.count(0), 2);
    }

    private static void keep(Edges e) {
        e.by("V", "keep all but the TAPE, FAULT, the latest WORLD");
        SweetWaits x = Edges.kids(120);
        x.image(0);
        for (int fact = 0; fact < 8; fact++) {
            x.fact(119, fact, 1);
            x.meaning(fact, 1);
        }
        x.dealt(119, 1);
        x.minute(119, 7, 1);
        for (int thing = 0; thing < 4; thing++) {
            x.later(119, thing, 5);
        }
        x.terms(0, 1);
        x.terms(1, 1);
        x.terms(2, 1);
        Check.text(x, "chance 1;later 9");
        x.run(0, 0);
        Check.text(x, "?");
        x.feed(1, 2, 3, 4, 5);
        x.image(1);
        e.due("back", x.back(0), 0);
        for (int what = 0; what < 16; what++) {
            e.due("of " + what, x.of(119, what), what < 10 || what == 15 ? 0 : what == 10 ? 3 : -1);
        }
        for (int fact = 0; fact < 8; fact++) {
            e.due("meaning " + fact, x.meaning(fact, 2), 0);
        }
        e.due("LONG", x.terms(0, 0), 100);
        e.due("THING", x.terms(1, 0), 0);
        e.due("END", x.terms(2, 3), 15);
        e.due("texts", x.count(1), 0);
        e.due("the tape is as it is", x.count(5), 20);
        e.due("the fault is as it is", x.fault(), 0);
        e.due("the world is as it is", x.world(119, 2), 9);
        x.end(0);
        e.due("back", x.back(1), 0);
        for (int what = 0; what < 16; what++) {
            e.due("of " + what, x.of(119, what), what == 9 ? 7 : what > 10 && what < 15 ? 5 : 1);
        }
        for (int fact = 0; fact < 8; fact++) {
            e.due("meaning " + fact, x.meaning(fact, 1), 1);
        }
        e.due("LONG", x.terms(0, 1), 1);
        e.due("THING", x.terms(1, 1), 1);
        e.due("END", x.terms(2, 1), 1);
        e.due("texts", x.count(1), 1);
        e.due("the text", x.chance(0, 119, 0), 1);
        e.due("the tape is as it is", x.count(5), 0);
    }

    private static void fullAgain(Edges e) {
        e.by("V", "BACK to one all that it keeps is as it was then");
        SweetWaits x = Edges.kids(119);
        for (int i = 0; i < 9; i++) {
            Check.text(x, "in");
        }
        x.image(0);
        for (int i = 0; i < 2; i++) {
            e.due("the last child", x.child(i, 0, 0, 0, 0, 0), 119);
            x.minute(119, 10, 0);
            x.later(119, 2, 8);
            x.dealt(119, 2);
            x.promise(119, 1);
            e.due("no more", x.child(0, 0, 0, 0, 0, 0), -5);
            e.due("the last text", Check.text(x, "waits " + (i + 1)), 9);
            e.due("its waits", x.waits(9, 119), i + 1);
            e.due("no more", Check.text(x, "in"), -5);
            x.back(0);
            e.due("no child 119", x.dealt(119, 0), -2);
            e.due("no text 9", x.run(9, 0), -2);
        }
        SweetWaits y = Edges.kids(1);
        y.image(0);
        Check.text(y, "chance 10;chance 11;chance 12 if 1=2");
        y.image(1);
        y.back(0);
        Check.text(y, "chance 20");
        e.due("another text", y.chance(0, 0, 0), 20);
        y.back(1);
        e.due("the text that it kept", y.chance(0, 0, 0), 11);
        x.child(3, 0, 0, 0, 0, 0);
        int[] fresh = {3, 0, 0, 0, 0, 0, 0, 0, 0, 0, 3, -1, -1, -1, -1, 0};
        for (int what = 0; what < 16; what++) {
            e.due("a new child has nothing of the one that was there: " + what, x.of(119, what), fresh[what]);
        }
    }

    private static void back(Edges e) {
        SweetWaits x = Edges.kids(1);
        e.by("44", "-2 it was not kept");
        e.due("0", x.back(0), -2);
        e.due("1", x.back(1), -2);
        e.due("status", x.status(), -2);
        e.due("all stays", x.count(0), 1);
        x.image(1);
        e.due("0 still", x.back(0), -2);
        e.due("1", x.back(1), 0);
        e.due("status", x.status(), 0);
        e.by("44", "BACK to IMAGE k: 0. -1;");
        for (int k : new int[] {-1, 2, LOW, HIGH}) {
            e.due("no image " + k, x.back(k), -1);
            e.due("status", x.status(), -1);
        }
        x.child(0, 0, 0, 0, 0, 0);
        x.back(0);
        x.back(2);
        e.due("one that is refused changes nothing", x.count(0), 2);
    }

    private static void count(Edges e) {
        e.by("45", "0 CHILDREN, 1 TEXTS, 2 TRIED ones, 3 those that had to GO, 4 FOUND by the THING, 5 bytes of the TAPE");
        SweetWaits x = Edges.waiting(new int[][] {{0, 0}, {0, 1}, {200, 0}, {0, 2}, {0, 2}, {0, 3}});
        x.later(5, 1, 0);
        Check.text(x, "in");
        x.feed(0, 0, 0, 0, 0);
        int[] want = {6, 1, 3, 2, 0, 20};
        for (int what = 0; what < 6; what++) {
            e.due("count " + what, x.count(what), want[what]);
        }
        x.terms(1, 1);
        e.due("found by another thing", x.count(4), 1);
        e.by("45", "NONE for others.");
        for (int what : new int[] {-1, 11, LOW, HIGH}) {
            e.due("no what " + what, x.count(what), -1);
        }
        e.due("10", x.count(10), 0);
    }

    private static void refusals(Edges e) {
        e.by("45", "6 .. 10 how many calls were REFUSED by -1, -2, -3, -5, -6 (IMAGES do not keep that)");
        SweetWaits x = Edges.kids(120);
        x.image(0);
        x.fact(0, 6, 9);
        for (int i = 0; i < 9; i++) {
            Check.text(x, "in");
        }
        int[] due = new int[5];
        for (int round = 0; round < 2; round++) {
            x.terms(3, 0);
            x.dealt(120, 0);
            x.promise(0, 1);
            x.child(0, 0, 0, 0, 0, 0);
            x.text();
            for (int i = 0; i < 5; i++) {
                due[i]++;
                e.due("count " + (6 + i), x.count(6 + i), due[i]);
            }
        }
        x.feed(0, 0, 0, 0, 0);
        x.end(21);
        x.end(-1);
        x.of(120, 0);
        x.stays(9, 0);
        x.count(11);
        x.looked(24);
        x.later(0, 0, -1);
        for (int i = 0; i < 5; i++) {
            e.due("no refusals: " + (6 + i), x.count(6 + i), due[i]);
        }
        x.back(0);
        for (int i = 0; i < 5; i++) {
            e.due("back: " + (6 + i), x.count(6 + i), due[i]);
        }
    }

    private static void status(Edges e) {
        e.by("46", "0 if it was not, or ahead of any");
        SweetWaits x = new SweetWaits();
        e.due("ahead of any", x.status(), 0);
        x.of(0, 0);
        e.due("ahead of any of these", x.status(), 0);
        e.by("46", "What the latest call of child, fact, promise, dealt, minute, later, terms, row, text, meaning, run, image,"
            + " back was REFUSED by");
        x.child(0, 0, 0, 0, 0, 0);
        Check.text(x, "in");
        for (int call = 0; call < NAMED.size(); call++) {
            int refused = named(x, call, true);
            e.so(NAMED.get(call) + " is refused", refused < 0);
            e.due(NAMED.get(call) + " was refused", x.status(), refused);
            int taken = named(x, call, false);
            e.so(NAMED.get(call) + " is taken", taken >= 0 || NAMED.get(call).equals("later"));
            e.due(NAMED.get(call) + " was taken", x.status(), 0);
        }
        x.promise(0, 2);
        x.promise(99, 1);
        e.due("the latest", x.status(), -2);
        x.fact(0, 6, 9);
        x.promise(0, 1);
        e.due("the latest", x.status(), -3);
        e.due("status leaves itself", x.status(), -3);
    }

    /** A call of those that status names, in a way that is refused, or taken. */
    private static int named(SweetWaits x, int call, boolean refused) {
        int child = refused ? 99 : 0;
        int k = refused ? 2 : 0;
        switch (NAMED.get(call)) {
            case "child":
                return x.child(refused ? 6 : 5, 0, 0, 0, 0, 0);
            case "fact":
                return x.fact(child, 0, 0);
            case "promise":
                return x.promise(child, 0);
            case "dealt":
                return x.dealt(child, 0);
            case "minute":
                return x.minute(child, 0, 0);
            case "later":
                return x.later(child, 0, 0);
            case "terms":
                return x.terms(2, refused ? 0 : 1);
            case "row":
                x.end(0);
                x.feed(0, 0, 0, 0, 0);
                return x.row(child);
            case "text":
                x.end(0);
                return Check.text(x, refused ? "" : "in");
            case "meaning":
                return x.meaning(0, refused ? 3 : 1);
            case "run":
                return x.run(0, refused ? -1 : 0);
            case "image":
                return x.image(k);
            default:
                return x.back(k);
        }
    }

    private static void othersLeaveIt(Edges e) throws Exception {
        e.by("46", "the latest call of child, fact, promise");
        for (Method m : SweetWaits.class.getDeclaredMethods()) {
            if (!Modifier.isPublic(m.getModifiers()) || NAMED.contains(m.getName())) {
                continue;
            }
            SweetWaits x = Edges.kids(1);
            Check.text(x, "in");
            for (int number : new int[] {0, -5, 1000}) {
                Object[] numbers = new Object[m.getParameterCount()];
                java.util.Arrays.fill(numbers, number);
                x.dealt(9, 0);
                int counted = x.count(6);
                m.invoke(x, numbers);
                e.due(m.getName() + " leaves what was refused", x.status(), -2);
                e.due(m.getName() + " is not counted", x.count(6), counted);
                x.dealt(0, 0);
                m.invoke(x, numbers);
                e.due(m.getName() + " leaves what was not", x.status(), 0);
            }
        }
    }
}
