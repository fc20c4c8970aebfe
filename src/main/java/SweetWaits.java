import java.util.Arrays;

/**
 * Children left alone with a sweet: how long they waited, laws of how they wait, and what may be told of both.
 * The words in the comments (TEXT, GROUP, STAYS ..) are those of the document.
 */
public final class SweetWaits {
    public static final int NONE = -1;

    private static final int NOTHING = -1000000;

    private static final int BAD_NUMBER = -1;
    private static final int NOT_THERE = -2;
    private static final int CANNOT_BE = -3;
    private static final int NO_ROOM = -5;
    private static final int BAD_TEXT = -6;
    private static final int REASONS = 7;

    private static final int CHILDREN_MOST = 120;
    private static final int LAWS_MOST = 10;
    private static final int IMAGES = 2;
    private static final int TENTHS_MOST = 200;
    private static final int MINUTES_MOST = 20;
    private static final int MILLION = 1000000;
    private static final int SHUFFLES_MOST = 100;
    private static final int MUCH_MOST = 100000;

    // What a child's row has, in the order of the document's of().
    private static final int WIDTH = 15;
    private static final int FACTS = 8;
    private static final int FACTS_ASKED = 6;
    private static final int WAY = 5;
    private static final int KEPT = 6;
    private static final int BROKEN_PROMISES = 7;
    private static final int DEALT = 8;
    private static final int TENTHS = 9;
    private static final int HOW = 10;
    private static final int LATER = 11;
    private static final int THINGS = 4;
    private static final int THING_MOST = 999;
    private static final int ALL_FACTS = 255;

    private static final int TOOK = 0;
    private static final int CUT = 1;
    private static final int GONE = 2;
    private static final int UNTRIED = 3;

    private static final int NEITHER = 0;
    private static final int LONG = 1;
    private static final int SHORT = 2;

    private static final int TERM_LONG = 0;
    private static final int TERM_THING = 1;
    private static final int TERM_END = 2;
    private static final int TERMS = 3;

    private static final int WAYS = 24;
    private static final int DEALS = 3;
    private static final int CAUSE = 0;
    private static final int MEANINGS = 3;

    private static final int[] FACT_MOST = {5, 9, 9, 9, 7, 23, 9, 9};
    private static final int[] TERM_LEAST = {0, 0, 1};
    private static final int[] TERM_MOST = {200, 3, 20};

    private final Children now = new Children();
    private final Children[] images = new Children[IMAGES];
    private final Tape tape = new Tape();
    private final Reader reader = new Reader(tape);
    private final Asked asked = new Asked();
    private final Group first = new Group();
    private final Group second = new Group();
    private final Ratio ratio = new Ratio();
    private final Curve curve = new Curve(ratio);
    private final Sides sides = new Sides();
    private final World latest = new World();
    private final Draws draws = new Draws();
    private final int[] parted = new int[TENTHS_MOST + 1];
    private final int[] refusals = new int[REASONS];
    private int refusedBy = 0;

    public SweetWaits() {
    }

    // ---- children ----

    public int child(int house, int wit, int likes, int hungry, int nursery, int way) {
        boolean can = factCan(0, house) && factCan(1, wit) && factCan(2, likes)
                && factCan(3, hungry) && factCan(4, nursery) && factCan(WAY, way);
        if (!can) {
            return refuse(BAD_NUMBER);
        }
        if (now.size >= CHILDREN_MOST) {
            return refuse(NO_ROOM);
        }
        int number = now.addChild();
        now.put(number, 0, house);
        now.put(number, 1, wit);
        now.put(number, 2, likes);
        now.put(number, 3, hungry);
        now.put(number, 4, nursery);
        now.put(number, WAY, way);
        return accept(number);
    }

    public int fact(int child, int fact, int value) {
        return change(child, fact, value, factCan(fact, value));
    }

    public int promise(int child, int kept) {
        if (kept != 0 && kept != 1) {
            return refuse(BAD_NUMBER);
        }
        if (!now.has(child)) {
            return refuse(NOT_THERE);
        }
        int fact = kept == 1 ? KEPT : BROKEN_PROMISES;
        int had = now.at(child, fact);
        if (had >= FACT_MOST[fact]) {
            return refuse(CANNOT_BE);
        }
        now.put(child, fact, had + 1);
        return accept(had + 1);
    }

    public int dealt(int child, int dealt) {
        return change(child, DEALT, dealt, within(dealt, 0, DEALS - 1));
    }

    public int minute(int child, int tenths, int how) {
        int most = how == TOOK || how == CUT ? TENTHS_MOST : 0;
        if (!within(how, TOOK, UNTRIED) || !within(tenths, 0, most)) {
            return refuse(BAD_NUMBER);
        }
        if (!now.has(child)) {
            return refuse(NOT_THERE);
        }
        now.put(child, TENTHS, tenths);
        return accept(now.put(child, HOW, how));
    }

    public int later(int child, int thing, int value) {
        boolean can = within(thing, 0, THINGS - 1) && within(value, NONE, THING_MOST);
        return change(child, can ? LATER + thing : LATER, value, can);
    }

    public int of(int child, int what) {
        if (!now.has(child) || !within(what, 0, WIDTH)) {
            return NONE;
        }
        return what == WIDTH ? now.side(child) : now.at(child, what);
    }

    public int terms(int what, int value) {
        if (!within(what, 0, TERMS - 1) || !within(value, TERM_LEAST[what], TERM_MOST[what])) {
            return refuse(BAD_NUMBER);
        }
        int was = now.rules[what];
        now.rules[what] = value;
        return accept(was);
    }

    // ---- the tape ----

    public int feed(int a, int b, int c, int d, int e) {
        if (!tape.hasRoom(20)) {
            return NONE;
        }
        tape.add(a);
        tape.add(b);
        tape.add(c);
        tape.add(d);
        tape.add(e);
        return tape.length;
    }

    public int end(int n) {
        if (!within(n, 0, tape.length)) {
            return NONE;
        }
        tape.length = n;
        return n;
    }

    public int row(int child) {
        if (!now.has(child)) {
            return refuse(NOT_THERE);
        }
        if (tape.length == 0) {
            return refuse(BAD_TEXT);
        }
        int gone = 0;
        int who = child;
        for (int place = 0; place < tape.length && who < now.size; place += 4) {
            if (putWait(who, place)) {
                gone++;
            }
            who++;
        }
        tape.length = 0;
        return accept(gone);
    }

    /** One int of a ROW, put to a child: whether it had to GO. */
    private boolean putWait(int child, int place) {
        boolean whole = place + 4 <= tape.length;
        int told = whole ? tape.intAt(place) : TENTHS_MOST + 1;
        int how = GONE;
        int tenths = 0;
        if (within(told, 0, TENTHS_MOST)) {
            how = TOOK;
            tenths = told;
        } else if (within(told, -TENTHS_MOST - 1, -1)) {
            how = CUT;
            tenths = -told - 1;
        }
        now.put(child, HOW, how);
        now.put(child, TENTHS, tenths);
        return how == GONE;
    }

    public int text() {
        if (now.lawCount >= LAWS_MOST) {
            tape.length = 0;
            return refuse(NO_ROOM);
        }
        Law law = reader.read();
        tape.length = 0;
        if (law == null) {
            return refuse(BAD_TEXT);
        }
        return accept(now.addLaw(law));
    }

    public int fault() {
        return reader.faultPlace;
    }

    // ---- groups ----

    public int group(int text, int what) {
        if (!within(what, 0, 5) || !gather(first, text)) {
            return NONE;
        }
        int n = 0;
        for (int i = 0; i < first.size; i++) {
            if (belongs(first.members[i], what)) {
                n++;
            }
        }
        return n;
    }

    private boolean belongs(int child, int what) {
        switch (what) {
            case 1:
                return now.isTried(child);
            case 2:
                return now.at(child, HOW) == CUT;
            case 3:
                return now.side(child) == LONG;
            case 4:
                return now.side(child) == SHORT;
            case 5:
                return now.isFound(child);
            default:
                return true;
        }
    }

    public int member(int text, int i) {
        if (!gather(first, text) || !within(i, 0, first.size - 1)) {
            return NONE;
        }
        return first.members[i];
    }

    public int stays(int text, int tenths) {
        if (!within(tenths, 0, TENTHS_MOST) || !gather(first, text)) {
            return NONE;
        }
        curve.take(now, first);
        return curve.millionths(-1, tenths);
    }

    public int half(int text) {
        if (!gather(first, text)) {
            return NONE;
        }
        curve.take(now, first);
        return curve.halfBehind(-1);
    }

    public int right(int text, int from, int to) {
        if (!within(from, 0, TENTHS_MOST) || !within(to, from, TENTHS_MOST) || !gather(first, text)) {
            return NONE;
        }
        curve.take(now, first);
        return curve.isNothingAt(from) ? NONE : curve.millionths(from, to);
    }

    public int goneOn(int text) {
        if (!gather(first, text)) {
            return NONE;
        }
        curve.take(now, first);
        int sum = 0;
        for (int tenths = 0; tenths <= TENTHS_MOST; tenths++) {
            if (curve.cut[tenths] > 0) {
                int to = curve.halfBehind(tenths);
                sum += curve.cut[tenths] * (to == NONE ? TENTHS_MOST : to);
            }
        }
        return sum;
    }

    // ---- laws weighed ----

    public int chance(int text, int child, int minute) {
        Law law = now.lawAt(text);
        if (law == null || !now.has(child) || !within(minute, 0, MINUTES_MOST - 1)) {
            return NONE;
        }
        asked.ask(now.rows, child);
        return asked.chanceBy(law, minute);
    }

    public int times(int text, int other, int group) {
        Law one = now.lawAt(text);
        Law two = now.lawAt(other);
        if (one == null || two == null || !gather(first, group)) {
            return NONE;
        }
        countFactors(one, ratio.above);
        countFactors(two, ratio.below);
        return ratio.timesByFactors();
    }

    public int likely(int group) {
        if (now.lawCount == 0 || !gather(first, group)) {
            return NONE;
        }
        int most = 0;
        countFactors(now.lawAt(most), ratio.below);
        for (int i = 1; i < now.lawCount; i++) {
            countFactors(now.lawAt(i), ratio.above);
            if (ratio.isMoreByFactors()) {
                most = i;
                ratio.putBelow();
            }
        }
        return most;
    }

    /** How often each factor comes by which a law is LIKELY for the first group. */
    private void countFactors(Law law, int[] factors) {
        Arrays.fill(factors, 0);
        if (law == null) {
            return;
        }
        // A law without the word "minute" tells the same in each: asking again would only cost.
        boolean changes = law.has(Asked.MINUTE);
        for (int i = 0; i < first.size; i++) {
            int child = first.members[i];
            int minutes = now.isTried(child) ? now.at(child, TENTHS) / 10 : NONE;
            boolean took = now.at(child, HOW) == TOOK;
            int chance = 0;
            asked.ask(now.rows, child);
            for (int m = 0; m <= minutes && m < MINUTES_MOST; m++) {
                if (m == 0 || changes) {
                    chance = asked.chanceBy(law, m);
                }
                if (m < minutes) {
                    factors[100 - chance]++;
                } else if (took) {
                    factors[chance]++;
                }
            }
        }
    }

    // ---- trials ----

    public int waits(int text, int child) {
        Law law = now.lawAt(text);
        if (law == null || !now.has(child)) {
            return NONE;
        }
        asked.ask(now.rows, child);
        return asked.waitsBy(law, now.rules[TERM_END]);
    }

    public int parts(int text, int other, int group, int way, int dealt) {
        Law one = now.lawAt(text);
        Law two = now.lawAt(other);
        boolean can = within(way, 0, WAYS - 1) && within(dealt, 0, DEALS - 1);
        if (one == null || two == null || !can || !gather(first, group)) {
            return NONE;
        }
        return partAll(one, two, way, dealt);
    }

    private int partAll(Law one, Law two, int way, int dealt) {
        int sum = 0;
        for (int i = 0; i < first.size; i++) {
            sum += partOne(one, two, first.members[i], way, dealt);
        }
        return sum;
    }

    private int partOne(Law one, Law two, int child, int way, int dealt) {
        asked.ask(now.rows, child);
        asked.words[WAY] = way;
        asked.words[DEALT] = dealt;
        int minutes = now.rules[TERM_END];
        return Math.abs(asked.waitsBy(one, minutes) - asked.waitsBy(two, minutes));
    }

    public int trial(int text, int other, int group) {
        Law one = now.lawAt(text);
        Law two = now.lawAt(other);
        if (one == null || two == null || !gather(first, group)) {
            return NONE;
        }
        // Where neither law has the word, all its values part alike, and the lowest stands for them.
        int ways = one.has(WAY) || two.has(WAY) ? WAYS : 1;
        int deals = one.has(DEALT) || two.has(DEALT) ? DEALS : 1;
        int most = -1;
        int found = NONE;
        for (int way = 0; way < ways; way++) {
            for (int deal = 0; deal < deals; deal++) {
                int much = partAll(one, two, way, deal);
                if (much > most) {
                    most = much;
                    found = DEALS * way + deal;
                }
            }
        }
        return found;
    }

    public int fewest(int text, int other, int group, int way, int dealt, int much) {
        Law one = now.lawAt(text);
        Law two = now.lawAt(other);
        boolean can = within(way, 0, WAYS - 1) && within(dealt, 0, DEALS - 1) && within(much, 0, MUCH_MOST);
        if (one == null || two == null || !can || !gather(first, group)) {
            return NONE;
        }
        Arrays.fill(parted, 0);
        for (int i = 0; i < first.size; i++) {
            int by = partOne(one, two, first.members[i], way, dealt);
            if (within(by, 0, TENTHS_MOST)) {
                parted[by]++;
            }
        }
        return fewestFor(much);
    }

    /** Those parted most are taken first: no fewer can do. */
    private int fewestFor(int much) {
        int left = much;
        int n = 0;
        for (int by = TENTHS_MOST; by > 0 && left > 0; by--) {
            for (int k = 0; k < parted[by] && left > 0; k++) {
                left -= by;
                n++;
            }
        }
        return left > 0 ? NONE : n;
    }

    // ---- what was found later ----

    public int bounds(int text, int what) {
        if (!within(what, 0, 2) || !gather(first, text)) {
            return NONE;
        }
        return mean(first, what);
    }

    public int apart(int text, int other, int what) {
        if (!within(what, 0, 1) || !gather(first, text) || !gather(second, other)) {
            return NOTHING;
        }
        if (first.size == 0 || second.size == 0) {
            return NOTHING;
        }
        int low = what == 0 ? 1 : 2;
        return mean(first, low) - mean(second, 3 - low);
    }

    /** MEAN of a group's FOUND ones (0), or of all with 0 (1) or 999 (2) for the others; NONE of nobody. */
    private int mean(Group group, int what) {
        int found = 0;
        int sum = 0;
        for (int i = 0; i < group.size; i++) {
            int thing = now.thing(group.members[i]);
            if (thing != NONE) {
                found++;
                sum += thing;
            }
        }
        int n = what == 0 ? found : group.size;
        if (what == 2) {
            sum += THING_MOST * (n - found);
        }
        return n == 0 ? NONE : sum * 100 / n;
    }

    public int meaning(int fact, int meaning) {
        if (!within(fact, 0, FACTS - 1) || !within(meaning, 0, MEANINGS - 1)) {
            return refuse(BAD_NUMBER);
        }
        int was = now.meanings[fact];
        now.meanings[fact] = meaning;
        return accept(was);
    }

    // ---- pairs ----

    public int pairs(int text, int facts, int what) {
        if (!within(facts, 0, ALL_FACTS) || !within(what, 0, 2) || !gather(first, text)) {
            return NONE;
        }
        sides.take(now, first);
        sides.match(facts);
        if (what == 0) {
            return sides.won;
        }
        return what == 1 ? sides.lost : sides.even;
    }

    public int beside(int text, int what) {
        if (!within(what, 0, 3) || !gather(first, text)) {
            return NOTHING;
        }
        int causes = ALL_FACTS ^ noCauses();
        int put = causes & ((1 << FACTS_ASKED) - 1);
        if (what == 0) {
            return put;
        }
        sides.take(now, first);
        if (what == 3) {
            return sides.nearestSet();
        }
        return sides.match(what == 1 ? put : 0);
    }

    public int hides(int facts) {
        return within(facts, 0, ALL_FACTS) ? facts & noCauses() : NONE;
    }

    private int noCauses() {
        int bits = 0;
        for (int fact = 0; fact < FACTS; fact++) {
            if (now.meanings[fact] != CAUSE) {
                bits |= 1 << fact;
            }
        }
        return bits;
    }

    public int looked(int way) {
        if (!within(way, 0, WAYS - 1)) {
            return NOTHING;
        }
        scoreAllWays();
        return sides.scores[way];
    }

    public int best() {
        return scoreAllWays();
    }

    /** All children are put on their sides and each WAY is scored: the BEST of these. */
    private int scoreAllWays() {
        first.takeAll(now.size);
        sides.take(now, first);
        return sides.scoreWays();
    }

    public int paid(int shuffles, int seed) {
        if (!within(shuffles, 1, SHUFFLES_MOST) || !within(seed, 0, MILLION)) {
            return NONE;
        }
        int bar = sides.scores[scoreAllWays()];
        draws.start(seed);
        int n = 0;
        for (int i = 0; i < shuffles; i++) {
            sides.shuffle(draws);
            if (sides.scores[sides.scoreWays()] >= bar) {
                n++;
            }
        }
        return n;
    }

    // ---- who lasts longer ----

    public int lasts(int text, int other, int what) {
        if (!within(what, 0, 3) || !gather(first, text) || !gather(second, other)) {
            return NONE;
        }
        return countLasting(what);
    }

    public int trust(int what) {
        if (!within(what, 0, 3)) {
            return NONE;
        }
        takeDealt(first, 1);
        takeDealt(second, 2);
        return countLasting(what);
    }

    private void takeDealt(Group group, int dealt) {
        group.size = 0;
        for (int child = 0; child < now.size; child++) {
            if (now.at(child, DEALT) == dealt) {
                group.add(child);
            }
        }
    }

    private int countLasting(int what) {
        int n = 0;
        for (int i = 0; i < first.size; i++) {
            int one = first.members[i];
            int how = now.at(one, HOW);
            int tenths = now.at(one, TENTHS);
            for (int k = 0; k < second.size && meansTried(how); k++) {
                int other = second.members[k];
                int otherHow = now.at(other, HOW);
                int more = tenths - now.at(other, TENTHS);
                if (one != other && meansTried(otherHow) && lasting(how, otherHow, more) == what) {
                    n++;
                }
            }
        }
        return n;
    }

    /** Of two TRIED ones: 0 the one lasts longer, 1 the other one, 2 EVEN, 3 not SURE. */
    private static int lasting(int how, int otherHow, int more) {
        if (outlasts(how, otherHow, more)) {
            return 0;
        }
        if (outlasts(otherHow, how, -more)) {
            return 1;
        }
        return how == TOOK && otherHow == TOOK ? 2 : 3;
    }

    private static boolean outlasts(int how, int otherHow, int more) {
        return otherHow == TOOK && (how == TOOK ? more > 0 : more >= 0);
    }

    // ---- worlds ----

    public int run(int text, int seed) {
        if (!within(seed, 0, MILLION)) {
            return refuse(BAD_NUMBER);
        }
        Law law = now.lawAt(text);
        if (law == null) {
            return refuse(NOT_THERE);
        }
        draws.start(seed);
        return accept(latest.play(now, law, asked, draws));
    }

    public int world(int child, int what) {
        if (!latest.stands || !within(what, 0, 2)) {
            return NONE;
        }
        if (child == NONE) {
            return latest.sum(what);
        }
        return within(child, 0, latest.size - 1) ? latest.at(child, what) : NONE;
    }

    public int drawn(int facts) {
        if (!latest.stands || !within(facts, 0, ALL_FACTS)) {
            return NOTHING;
        }
        sides.start(latest.rows);
        for (int child = 0; child < latest.size; child++) {
            int side = latest.at(child, World.TAKES) == 0 ? LONG : SHORT;
            sides.add(child, side, latest.at(child, World.FOUND));
        }
        return sides.match(facts);
    }

    public int like(int child, int facts, int what) {
        if (!now.has(child) || !within(facts, 0, ALL_FACTS) || !within(what, 0, 4)) {
            return NONE;
        }
        int own = now.thing(child);
        if (what == 4 && own == NONE) {
            return NONE;
        }
        int n = 0;
        for (int other = 0; other < now.size; other++) {
            boolean alike = other != child && Sides.alikeIn(now.rows, child, other, facts);
            if (alike && isLikewise(other, what, own)) {
                n++;
            }
        }
        return n;
    }

    private boolean isLikewise(int child, int what, int own) {
        switch (what) {
            case 1:
                return now.side(child) == LONG;
            case 2:
                return now.side(child) == SHORT;
            case 3:
                return now.isFound(child);
            case 4:
                return now.thing(child) > own;
            default:
                return true;
        }
    }

    // ---- images, counts ----

    public int image(int k) {
        if (!within(k, 0, IMAGES - 1)) {
            return refuse(BAD_NUMBER);
        }
        if (images[k] == null) {
            images[k] = new Children();
        }
        images[k].copyFrom(now);
        return accept(0);
    }

    public int back(int k) {
        if (!within(k, 0, IMAGES - 1)) {
            return refuse(BAD_NUMBER);
        }
        if (images[k] == null) {
            return refuse(NOT_THERE);
        }
        now.copyFrom(images[k]);
        return accept(0);
    }

    public int count(int what) {
        switch (what) {
            case 0:
                return now.size;
            case 1:
                return now.lawCount;
            case 2:
                return now.countHow(TOOK) + now.countHow(CUT);
            case 3:
                return now.countHow(GONE);
            case 4:
                return now.countFound();
            case 5:
                return tape.length;
            case 6:
                return refusals[-BAD_NUMBER];
            case 7:
                return refusals[-NOT_THERE];
            case 8:
                return refusals[-CANNOT_BE];
            case 9:
                return refusals[-NO_ROOM];
            case 10:
                return refusals[-BAD_TEXT];
            default:
                return NONE;
        }
    }

    public int status() {
        return refusedBy;
    }

    // ---- what the calls share ----

    private int refuse(int reason) {
        refusedBy = reason;
        if (within(-reason, 0, REASONS - 1)) {
            refusals[-reason]++;
        }
        return reason;
    }

    private int accept(int answer) {
        refusedBy = 0;
        return answer;
    }

    /** Puts a value into a child's row, unless it is refused: what it was. */
    private int change(int child, int slot, int value, boolean can) {
        if (!can) {
            return refuse(BAD_NUMBER);
        }
        if (!now.has(child)) {
            return refuse(NOT_THERE);
        }
        return accept(now.put(child, slot, value));
    }

    /** The children of a GROUP; false, if there is no such TEXT. */
    private boolean gather(Group group, int text) {
        if (text == NONE) {
            group.takeAll(now.size);
            return true;
        }
        Law law = now.lawAt(text);
        if (law == null) {
            return false;
        }
        group.size = 0;
        for (int child = 0; child < now.size; child++) {
            asked.ask(now.rows, child);
            if (law.tell(Law.IN, asked) != Law.UNTOLD) {
                group.add(child);
            }
        }
        return true;
    }

    private static boolean factCan(int fact, int value) {
        return within(fact, 0, FACTS - 1) && within(value, 0, FACT_MOST[fact]);
    }

    private static boolean meansTried(int how) {
        return how == TOOK || how == CUT;
    }

    private static boolean within(int n, int least, int most) {
        return n >= least && n <= most;
    }

    private static int nearest(int n, int least, int most) {
        return Math.max(least, Math.min(most, n));
    }

    /** All that an IMAGE keeps: children, texts, terms, meanings. */
    private static final class Children {
        final int[] rows = new int[CHILDREN_MOST * WIDTH];
        final int[] rules = {100, 0, 15};
        final int[] meanings = new int[FACTS];
        // Laws never change once read, so images may share them.
        final Law[] laws = new Law[LAWS_MOST];
        int size = 0;
        int lawCount = 0;

        void copyFrom(Children other) {
            System.arraycopy(other.rows, 0, rows, 0, rows.length);
            System.arraycopy(other.rules, 0, rules, 0, TERMS);
            System.arraycopy(other.meanings, 0, meanings, 0, FACTS);
            for (int i = 0; i < LAWS_MOST; i++) {
                laws[i] = other.laws[i];
            }
            size = other.size;
            lawCount = other.lawCount;
        }

        boolean has(int child) {
            return within(child, 0, size - 1);
        }

        /** A child of whom nothing is known: its number, NONE without room. */
        int addChild() {
            if (size >= CHILDREN_MOST) {
                return NONE;
            }
            int number = size;
            size++;
            // BACK may have left a later child's row here.
            for (int slot = 0; slot < WIDTH; slot++) {
                put(number, slot, slot >= LATER ? NONE : 0);
            }
            put(number, HOW, UNTRIED);
            return number;
        }

        int at(int child, int slot) {
            boolean there = child >= 0 && child < size && slot >= 0 && slot < WIDTH;
            return there ? rows[child * WIDTH + slot] : NONE;
        }

        int put(int child, int slot, int value) {
            int was = at(child, slot);
            if (has(child) && within(slot, 0, WIDTH - 1)) {
                rows[child * WIDTH + slot] = value;
            }
            return was;
        }

        Law lawAt(int number) {
            return within(number, 0, lawCount - 1) ? laws[number] : null;
        }

        int addLaw(Law law) {
            if (lawCount >= LAWS_MOST) {
                return NONE;
            }
            laws[lawCount] = law;
            lawCount++;
            return lawCount - 1;
        }

        boolean isTried(int child) {
            return meansTried(at(child, HOW));
        }

        int side(int child) {
            if (!isTried(child)) {
                return NEITHER;
            }
            if (at(child, TENTHS) >= rules[TERM_LONG]) {
                return LONG;
            }
            return at(child, HOW) == TOOK ? SHORT : NEITHER;
        }

        /** The LATER thing of a child that is meant; NONE, if it is not FOUND. */
        int thing(int child) {
            return at(child, LATER + rules[TERM_THING]);
        }

        boolean isFound(int child) {
            return thing(child) != NONE;
        }

        int countHow(int how) {
            int n = 0;
            for (int child = 0; child < size; child++) {
                if (at(child, HOW) == how) {
                    n++;
                }
            }
            return n;
        }

        int countFound() {
            int n = 0;
            for (int child = 0; child < size; child++) {
                if (isFound(child)) {
                    n++;
                }
            }
            return n;
        }
    }

    /** Some of the children, in order. */
    private static final class Group {
        final int[] members = new int[CHILDREN_MOST];
        int size = 0;

        void add(int child) {
            if (size < CHILDREN_MOST) {
                members[size] = child;
                size++;
            }
        }

        void takeAll(int n) {
            size = 0;
            for (int child = 0; child < n; child++) {
                add(child);
            }
        }
    }

    /** The bytes that were fed. */
    private static final class Tape {
        static final int MOST = 400;
        final byte[] bytes = new byte[MOST];
        int length = 0;

        boolean hasRoom(int more) {
            return length + more <= MOST;
        }

        void add(int four) {
            for (int shift = 24; shift >= 0 && length < MOST; shift -= 8) {
                bytes[length] = (byte) (four >>> shift);
                length++;
            }
        }

        /** A byte as 0 .. 255; NONE behind the end. */
        int byteAt(int place) {
            return place >= 0 && place < length && place < MOST ? bytes[place] & 255 : NONE;
        }

        int intAt(int place) {
            int told = 0;
            for (int i = 0; i < 4; i++) {
                told = (told << 8) | (byteAt(place + i) & 255);
            }
            return told;
        }
    }

    /** Reads a TEXT into a law: SUMS and TESTS with each sign behind what it joins. */
    private static final class Reader {
        private static final int CLAUSES_MOST = 12;
        private static final int PARTS_MOST = 50;
        private static final int BRACKETS_MOST = 8;
        private static final int NUMBER_MOST = 1000;

        private static final int WORD = 1;
        private static final int NUMBER = 2;
        private static final int SIGN = 3;
        private static final int NO_MORE = 0;

        // Each TOKEN has a byte at least and gives one step at most.
        private final int[] steps = new int[Tape.MOST];
        private final int[] clauses = new int[CLAUSES_MOST * Law.CLAUSE_WIDTH];
        private int stepCount = 0;
        private int clauseCount = 0;
        private int partCount = 0;
        private final Tape tape;
        private int kind = NO_MORE;
        private int place = 0;
        private int behind = 0;
        private int number = 0;
        int faultPlace = NONE;

        Reader(Tape tape) {
            this.tape = tape;
        }

        /** The law on the tape; null, if it can't be: its FAULT is kept. */
        Law read() {
            stepCount = 0;
            clauseCount = 0;
            partCount = 0;
            behind = 0;
            goOn();
            if (!readClauses()) {
                faultPlace = place;
                return null;
            }
            faultPlace = NONE;
            return new Law(Arrays.copyOf(steps, stepCount),
                    Arrays.copyOf(clauses, clauseCount * Law.CLAUSE_WIDTH));
        }

        /** To the next TOKEN. */
        private void goOn() {
            place = behind;
            for (int i = 0; i < Tape.MOST && tape.byteAt(place) == ' '; i++) {
                place++;
            }
            kind = kindOf(tape.byteAt(place));
            number = 0;
            // A sign is a TOKEN by itself, whatever stands behind it.
            int longest = kind == WORD || kind == NUMBER ? Tape.MOST : 1;
            behind = place;
            for (int i = 0; i < longest && kind != NO_MORE && kindOf(tape.byteAt(behind)) == kind; i++) {
                if (kind == NUMBER) {
                    number = Math.min(number * 10 + tape.byteAt(behind) - '0', NUMBER_MOST + 1);
                }
                behind++;
            }
        }

        private static int kindOf(int sign) {
            if (sign == NONE) {
                return NO_MORE;
            }
            if (within(sign, 'a', 'z')) {
                return WORD;
            }
            return within(sign, '0', '9') ? NUMBER : SIGN;
        }

        private boolean isSign(char sign) {
            return kind == SIGN && tape.byteAt(place) == sign;
        }

        private boolean isWord(String word) {
            boolean same = kind == WORD && behind - place == word.length();
            for (int i = 0; same && i < word.length(); i++) {
                same = tape.byteAt(place + i) == word.charAt(i);
            }
            return same;
        }

        private void put(int step) {
            if (stepCount < steps.length) {
                steps[stepCount] = step;
                stepCount++;
            }
        }

        // Each read.. answers false with the TOKEN that can't go on still in its place.

        private boolean readClauses() {
            for (int i = 0; i < CLAUSES_MOST; i++) {
                if (!readClause(i * Law.CLAUSE_WIDTH)) {
                    return false;
                }
                clauseCount = i + 1;
                if (kind == NO_MORE) {
                    return true;
                }
                if (!isSign(';')) {
                    return false;
                }
                goOn();
            }
            return false;
        }

        private boolean readClause(int at) {
            int head = headHere();
            if (head == NONE || !within(at, 0, clauses.length - Law.CLAUSE_WIDTH)) {
                return false;
            }
            goOn();
            clauses[at] = head;
            clauses[at + Law.SUM_FROM] = stepCount;
            if (head != Law.IN && !readSum(0)) {
                return false;
            }
            clauses[at + Law.TEST_FROM] = stepCount;
            if (isWord("if")) {
                goOn();
                if (!readTest(0)) {
                    return false;
                }
            }
            clauses[at + Law.TEST_TO] = stepCount;
            return true;
        }

        private int headHere() {
            if (isWord("chance")) {
                return Law.CHANCE;
            }
            if (isWord("waits")) {
                return Law.WAITS;
            }
            if (isWord("later")) {
                return Law.LATER_THING;
            }
            return isWord("in") ? Law.IN : NONE;
        }

        private boolean readTest(int depth) {
            boolean good = readBoth(depth);
            for (int i = 0; i < Tape.MOST && good && isWord("or"); i++) {
                int jump = stepCount;
                put(Law.STOP_IF_SO);
                goOn();
                good = readBoth(depth);
                aim(jump);
            }
            return good;
        }

        private boolean readBoth(int depth) {
            boolean good = readPlain(depth);
            for (int i = 0; i < Tape.MOST && good && isWord("and"); i++) {
                int jump = stepCount;
                put(Law.STOP_IF_NOT);
                goOn();
                good = readPlain(depth);
                aim(jump);
            }
            return good;
        }

        /** A jump goes behind all that has been read since. */
        private void aim(int jump) {
            if (within(jump, 0, steps.length - 1)) {
                steps[jump] += stepCount;
            }
        }

        private boolean readPlain(int depth) {
            boolean turned = false;
            for (int i = 0; i < Tape.MOST && isWord("not"); i++) {
                turned = !turned;
                goOn();
            }
            boolean good = isSign('(') ? readBracketed(depth, ')') : readComparison(depth);
            if (good && turned) {
                put(Law.NOT);
            }
            return good;
        }

        private boolean readComparison(int depth) {
            if (!readSum(depth)) {
                return false;
            }
            int step = isSign('<') ? Law.LESS : isSign('>') ? Law.MORE : isSign('=') ? Law.SAME : NONE;
            if (step == NONE) {
                return false;
            }
            goOn();
            if (!readSum(depth)) {
                return false;
            }
            put(step);
            return true;
        }

        /** A bracket here, what it holds, and the closing one. */
        private boolean readBracketed(int depth, char closing) {
            if (depth >= BRACKETS_MOST) {
                return false;
            }
            goOn();
            boolean good = closing == ')' ? readTest(depth + 1) : readSum(depth + 1);
            if (!good || !isSign(closing)) {
                return false;
            }
            goOn();
            return true;
        }

        private boolean readSum(int depth) {
            boolean good = readTerm(depth);
            for (int i = 0; i < Tape.MOST && good && (isSign('+') || isSign('-')); i++) {
                int step = isSign('+') ? Law.PLUS : Law.LESS_BY;
                goOn();
                good = readTerm(depth);
                put(step);
            }
            return good;
        }

        private boolean readTerm(int depth) {
            boolean good = readPart(depth);
            for (int i = 0; i < Tape.MOST && good && (isSign('*') || isSign('/')); i++) {
                int step = isSign('*') ? Law.TIMES : Law.THROUGH;
                goOn();
                good = readPart(depth);
                put(step);
            }
            return good;
        }

        private boolean readPart(int depth) {
            if (isSign('[')) {
                return readBracketed(depth, ']');
            }
            int step = NONE;
            if (kind == NUMBER && number <= NUMBER_MOST) {
                step = number;
            } else if (kind == WORD && wordHere() != NONE) {
                step = Law.FIRST_WORD + wordHere();
            }
            if (step == NONE || partCount >= PARTS_MOST) {
                return false;
            }
            partCount++;
            put(step);
            goOn();
            return true;
        }

        private int wordHere() {
            if (isWord("house")) {
                return 0;
            }
            if (isWord("wit")) {
                return 1;
            }
            if (isWord("likes")) {
                return 2;
            }
            if (isWord("hungry")) {
                return 3;
            }
            if (isWord("nursery")) {
                return 4;
            }
            if (isWord("way")) {
                return WAY;
            }
            if (isWord("kept")) {
                return KEPT;
            }
            if (isWord("broken")) {
                return BROKEN_PROMISES;
            }
            if (isWord("dealt")) {
                return DEALT;
            }
            if (isWord("waited")) {
                return TENTHS;
            }
            return isWord("minute") ? Asked.MINUTE : NONE;
        }
    }

    /** A TEXT that was read. */
    private static final class Law {
        static final int CHANCE = 0;
        static final int WAITS = 1;
        static final int LATER_THING = 2;
        static final int IN = 3;

        static final int CLAUSE_WIDTH = 4;
        static final int SUM_FROM = 1;
        static final int TEST_FROM = 2;
        static final int TEST_TO = 3;

        // Steps: below FIRST_WORD a number; then the words; then the signs; then the jumps with where they go.
        static final int FIRST_WORD = 1001;
        static final int PLUS = 1100;
        static final int LESS_BY = 1101;
        static final int TIMES = 1102;
        static final int THROUGH = 1103;
        static final int LESS = 1104;
        static final int MORE = 1105;
        static final int SAME = 1106;
        static final int NOT = 1107;
        static final int STOP_IF_NOT = 2000;
        static final int STOP_IF_SO = 3000;

        // Below all that a SUM can be.
        static final int UNTOLD = -2000000000;
        // A SUM that is BROKEN leaves its clause as good as not there.
        private static final int BROKEN = UNTOLD;
        private static final int MOST = 1000000000;

        private final int[] steps;
        private final int[] clauses;

        Law(int[] steps, int[] clauses) {
            this.steps = steps;
            this.clauses = clauses;
        }

        boolean has(int word) {
            boolean found = false;
            for (int i = 0; i < steps.length && !found; i++) {
                found = steps[i] == FIRST_WORD + word;
            }
            return found;
        }

        /** What is told by a HEAD ("in": 1); UNTOLD, if no clause with it HOLDS. */
        int tell(int head, Asked asked) {
            int told = UNTOLD;
            // From the last one up: the first that holds here is the last that holds.
            for (int at = clauses.length - CLAUSE_WIDTH; at >= 0 && told == UNTOLD; at -= CLAUSE_WIDTH) {
                int testFrom = clauses[at + TEST_FROM];
                int testTo = clauses[at + TEST_TO];
                boolean asks = testFrom < testTo;
                if (clauses[at] == head && (!asks || work(testFrom, testTo, asked) == 1)) {
                    told = head == IN ? 1 : work(clauses[at + SUM_FROM], testFrom, asked);
                }
            }
            return told;
        }

        /** What steps come to: a SUM, or 1 and 0 for a TEST; BROKEN, as soon as one of them is. */
        private int work(int from, int to, Asked asked) {
            int[] stack = asked.stack;
            int top = 0;
            int at = from;
            // Jumps go on ahead alone, so there are never more turns than steps.
            for (int turn = 0; turn < steps.length && at >= 0 && at < to && at < steps.length; turn++) {
                int step = steps[at];
                at++;
                if (step < PLUS) {
                    if (top >= stack.length) {
                        return BROKEN;
                    }
                    stack[top] = step < FIRST_WORD ? step : asked.wordAt(step - FIRST_WORD);
                    top++;
                } else if (top < 1) {
                    return BROKEN;
                } else if (step == NOT) {
                    stack[top - 1] = 1 - stack[top - 1];
                } else if (step >= STOP_IF_NOT) {
                    int target = jumpTarget(step, stack[top - 1]);
                    if (target == NONE) {
                        top--;
                    } else {
                        at = target;
                    }
                } else {
                    int came = top < 2 ? BROKEN : join(step, stack[top - 2], stack[top - 1]);
                    if (came == BROKEN) {
                        return BROKEN;
                    }
                    top--;
                    stack[top - 1] = came;
                }
            }
            return top < 1 ? BROKEN : stack[top - 1];
        }

        /** Where a jump goes, if what stands behind can't matter; NONE, if it can. */
        private static int jumpTarget(int step, int so) {
            if (step >= STOP_IF_SO) {
                return so == 1 ? step - STOP_IF_SO : NONE;
            }
            return so == 0 ? step - STOP_IF_NOT : NONE;
        }

        private static int join(int step, int one, int other) {
            switch (step) {
                case PLUS:
                    return hold((long) one + other);
                case LESS_BY:
                    return hold((long) one - other);
                case TIMES:
                    return hold((long) one * other);
                case THROUGH:
                    return other == 0 ? BROKEN : hold((long) one / other);
                case LESS:
                    return one < other ? 1 : 0;
                case MORE:
                    return one > other ? 1 : 0;
                case SAME:
                    return one == other ? 1 : 0;
                default:
                    return BROKEN;
            }
        }

        private static int hold(long n) {
            return n > MOST || n < -MOST ? BROKEN : (int) n;
        }
    }

    /** A child of whom a TEXT is asked, and a minute. */
    private static final class Asked {
        static final int MINUTE = 10;
        // FACTS, DEALT, TENTHS as in a child's row, and the minute behind these.
        final int[] words = new int[MINUTE + 1];
        // A TEXT has 50 PARTS at most, so never more stand open.
        final int[] stack = new int[64];

        void ask(int[] rows, int child) {
            int from = child * WIDTH;
            if (within(child, 0, CHILDREN_MOST - 1) && from + WIDTH <= rows.length) {
                System.arraycopy(rows, from, words, 0, MINUTE);
            }
            words[MINUTE] = 0;
        }

        int wordAt(int word) {
            return word >= 0 && word <= MINUTE ? words[word] : 0;
        }

        int chanceBy(Law law, int minute) {
            words[MINUTE] = minute;
            int told = law.tell(Law.CHANCE, this);
            return told == Law.UNTOLD ? 50 : nearest(told, 1, 99);
        }

        int waitsBy(Law law, int minutes) {
            words[MINUTE] = 0;
            int told = law.tell(Law.WAITS, this);
            return told == Law.UNTOLD ? 0 : nearest(told, 0, 10 * minutes);
        }

        int laterBy(Law law) {
            words[MINUTE] = 0;
            int told = law.tell(Law.LATER_THING, this);
            return told == Law.UNTOLD ? 0 : nearest(told, 0, THING_MOST);
        }
    }

    /** A fraction of two numbers of any size that comes up here, kept exactly. */
    private static final class Ratio {
        private static final int BITS = 30;
        private static final int BASE = 1 << BITS;
        // 120 children give 20 factors below 128 each: 560 digits; one more is for the scale.
        private static final int DIGITS = 600;
        // The factors are chances 1 .. 99 of 100.
        private static final int FACTORS = 100;
        // Binary logarithms of the factors in 1,048,576ths, cut, and one that is above that of a million.
        private static final int[] LOGS = {
            0, 0, 1048576, 1661953, 2097152, 2434718, 2710529, 2943724, 3145728, 3323907,
            3483294, 3627476, 3759105, 3880192, 3992300, 4096671, 4194304, 4286015, 4372483, 4454274,
            4531870, 4605678, 4676052, 4743298, 4807681, 4869436, 4928768, 4985860, 5040876, 5093962,
            5145247, 5194851, 5242880, 5289430, 5334591, 5378443, 5421059, 5462507, 5502850, 5542145,
            5580446, 5617800, 5654254, 5689850, 5724628, 5758625, 5791874, 5824408, 5856257, 5887449,
            5918012, 5947969, 5977344, 6006159, 6034436, 6062195, 6089452, 6116228, 6142538, 6168398,
            6193823, 6218828, 6243427, 6267632, 6291456, 6314910, 6338006, 6360755, 6383167, 6405252,
            6427019, 6448477, 6469635, 6490501, 6511083, 6531389, 6551426, 6571201, 6590721, 6609993,
            6629022, 6647814, 6666376, 6684713, 6702830, 6720733, 6738426, 6755915, 6773204, 6790298,
            6807201, 6823917, 6840450, 6856804, 6872984, 6888992, 6904833, 6920510, 6936025, 6951384
        };
        private static final int MILLION_LOG = 20 << 20;

        private final int[] over = new int[DIGITS];
        private final int[] under = new int[DIGITS];
        private int overLength = 1;
        private int underLength = 1;
        final int[] above = new int[FACTORS];
        final int[] below = new int[FACTORS];
        private long about = 0;
        private long doubt = 0;

        void start() {
            over[0] = 1;
            under[0] = 1;
            overLength = 1;
            underLength = 1;
        }

        void multiply(int up, int down) {
            overLength = grow(over, overLength, up);
            underLength = grow(under, underLength, down);
        }

        private static int grow(int[] digits, int length, int factor) {
            long carry = 0;
            for (int i = 0; i < length && i < digits.length; i++) {
                long came = (long) digits[i] * factor + carry;
                digits[i] = (int) (came & (BASE - 1));
                carry = came >> BITS;
            }
            if (carry > 0 && length < digits.length) {
                digits[length] = (int) carry;
                return length + 1;
            }
            return length;
        }

        /** The factors above become those below. */
        void putBelow() {
            System.arraycopy(above, 0, below, 0, FACTORS);
        }

        boolean isMoreByFactors() {
            weighFactors();
            if (about > doubt || about < -doubt) {
                return about > 0;
            }
            raise();
            return !covers(under, underLength, 1, over, overLength);
        }

        int timesByFactors() {
            weighFactors();
            if (about < -doubt) {
                return 0;
            }
            if (about - doubt >= MILLION_LOG) {
                return MILLION;
            }
            raise();
            return cut(1, MILLION);
        }

        /** Exact products are dear, and logarithms mostly decide: these, and how far off they may be at most. */
        private void weighFactors() {
            about = 0;
            doubt = 0;
            for (int factor = 1; factor < FACTORS; factor++) {
                int power = above[factor] - below[factor];
                about += (long) power * LOGS[factor];
                doubt += Math.abs(power);
            }
        }

        /** The fraction becomes the product of the factors above through that of those below. */
        private void raise() {
            start();
            overLength = growByFactors(over, above, below);
            underLength = growByFactors(under, below, above);
        }

        /** Of factors that come on both sides only those that are left over count. */
        private static int growByFactors(int[] digits, int[] here, int[] there) {
            int length = 1;
            // Small factors are gathered, as each growing goes through all digits.
            int gathered = 1;
            for (int factor = 2; factor < FACTORS; factor++) {
                for (int i = there[factor]; i < here[factor]; i++) {
                    if (gathered >= BASE / FACTORS) {
                        length = grow(digits, length, gathered);
                        gathered = 1;
                    }
                    gathered *= factor;
                }
            }
            return grow(digits, length, gathered);
        }

        boolean isHalfOrLess() {
            return covers(under, underLength, 2, over, overLength);
        }

        /** How often it goes, a scale times it, cut, so much at most; it is spoilt then. */
        int cut(int scale, int most) {
            overLength = grow(over, overLength, scale);
            int low = 0;
            int high = most;
            for (int i = 0; i < 32 && low < high; i++) {
                int middle = low + (high - low + 1) / 2;
                if (covers(over, overLength, middle, under, underLength)) {
                    low = middle;
                } else {
                    high = middle - 1;
                }
            }
            return low;
        }

        /** Whether n times the small number is not above the great one. */
        private static boolean covers(int[] great, int greatLength, int n, int[] small, int smallLength) {
            long carry = 0;
            for (int i = 0; i < DIGITS && (i < greatLength || i < smallLength); i++) {
                long have = i < greatLength ? great[i] : 0;
                long need = i < smallLength ? small[i] : 0;
                carry = (have - n * need + carry) >> BITS;
            }
            return carry >= 0;
        }
    }

    /** How a GROUP STAYS. */
    private static final class Curve {
        private final int[] took = new int[TENTHS_MOST + 1];
        final int[] cut = new int[TENTHS_MOST + 1];
        private final int[] still = new int[TENTHS_MOST + 1];
        private final Ratio ratio;

        Curve(Ratio ratio) {
            this.ratio = ratio;
        }

        void take(Children children, Group group) {
            Arrays.fill(took, 0);
            Arrays.fill(cut, 0);
            for (int i = 0; i < group.size; i++) {
                int child = group.members[i];
                int tenths = children.at(child, TENTHS);
                if (children.isTried(child) && within(tenths, 0, TENTHS_MOST)) {
                    int[] row = children.at(child, HOW) == TOOK ? took : cut;
                    row[tenths]++;
                }
            }
            int sum = 0;
            for (int tenths = TENTHS_MOST; tenths >= 0; tenths--) {
                sum += took[tenths] + cut[tenths];
                still[tenths] = sum;
            }
        }

        boolean isNothingAt(int tenths) {
            boolean nothing = false;
            for (int t = 0; t <= tenths && t <= TENTHS_MOST; t++) {
                nothing = nothing || allTook(t);
            }
            return nothing;
        }

        private boolean allTook(int tenths) {
            return took[tenths] > 0 && took[tenths] == still[tenths];
        }

        /** The product over all TENTHS behind one up to another one, in millionths. */
        int millionths(int from, int to) {
            ratio.start();
            for (int t = Math.max(from + 1, 0); t <= to && t <= TENTHS_MOST; t++) {
                if (allTook(t)) {
                    return 0;
                }
                if (took[t] > 0) {
                    ratio.multiply(still[t] - took[t], still[t]);
                }
            }
            return ratio.cut(MILLION, MILLION);
        }

        /** The fewest TENTHS behind one up to which the product is a half or less; NONE without. */
        int halfBehind(int from) {
            ratio.start();
            for (int t = Math.max(from + 1, 0); t <= TENTHS_MOST; t++) {
                if (allTook(t)) {
                    return t;
                }
                if (took[t] > 0) {
                    ratio.multiply(still[t] - took[t], still[t]);
                    if (ratio.isHalfOrLess()) {
                        return t;
                    }
                }
            }
            return NONE;
        }
    }

    /** LONG and SHORT ones with what was FOUND of them, and their PAIRS. */
    private static final class Sides {
        private static final int SETS = 256;

        private final Group longs = new Group();
        private final Group shorts = new Group();
        private final Group found = new Group();
        private final int[] things = new int[CHILDREN_MOST];
        private final int[] ways = new int[CHILDREN_MOST];
        private final int[] balances = new int[SETS];
        private final int[] decided = new int[SETS];
        final int[] scores = new int[WAYS];
        private int[] rows = new int[0];
        int won = 0;
        int lost = 0;
        int even = 0;

        void start(int[] from) {
            rows = from;
            longs.size = 0;
            shorts.size = 0;
            found.size = 0;
        }

        void take(Children children, Group group) {
            start(children.rows);
            for (int i = 0; i < group.size; i++) {
                int child = group.members[i];
                add(child, children.side(child), children.thing(child));
            }
        }

        void add(int child, int side, int thing) {
            int place = child * WIDTH + WAY;
            if (thing == NONE || !within(child, 0, CHILDREN_MOST - 1) || place >= rows.length) {
                return;
            }
            things[child] = thing;
            ways[child] = SweetWaits.nearest(rows[place], 0, WAYS - 1);
            found.add(child);
            if (side == LONG) {
                longs.add(child);
            } else if (side == SHORT) {
                shorts.add(child);
            }
        }

        /** Counts the PAIRS that are ALIKE in facts: WON less LOST. */
        int match(int facts) {
            won = 0;
            lost = 0;
            even = 0;
            for (int i = 0; i < longs.size; i++) {
                for (int k = 0; k < shorts.size; k++) {
                    if (alikeIn(rows, longs.members[i], shorts.members[k], facts)) {
                        countPair(compare(i, k));
                    }
                }
            }
            return won - lost;
        }

        private void countPair(int sign) {
            if (sign > 0) {
                won++;
            } else if (sign < 0) {
                lost++;
            } else {
                even++;
            }
        }

        /** 1, if the i-th long one won, -1, if it lost against the k-th short one, 0 else. */
        private int compare(int i, int k) {
            return Integer.compare(things[longs.members[i]], things[shorts.members[k]]);
        }

        static boolean alikeIn(int[] rows, int one, int other, int facts) {
            return (alikeFacts(rows, one, other) & facts) == facts;
        }

        /** The FACTS in which two children are ALIKE, as bits. */
        private static int alikeFacts(int[] rows, int one, int other) {
            int a = one * WIDTH;
            int b = other * WIDTH;
            int last = rows.length - FACTS;
            if (!within(a, 0, last) || !within(b, 0, last)) {
                return 0;
            }
            int bits = 0;
            for (int fact = 0; fact < FACTS; fact++) {
                if (rows[a + fact] == rows[b + fact]) {
                    bits |= 1 << fact;
                }
            }
            return bits;
        }

        /** The set of FACTS by which WON less LOST is nearest to 0; NONE without a pair that is WON or LOST. */
        int nearestSet() {
            countBySets();
            int least = CHILDREN_MOST * CHILDREN_MOST;
            int chosen = NONE;
            for (int set = 0; set < SETS; set++) {
                if (decided[set] > 0 && Math.abs(balances[set]) < least) {
                    least = Math.abs(balances[set]);
                    chosen = set;
                }
            }
            return chosen;
        }

        /** A pair alike in a set is so in all sets within it: counted at its own, it is handed down fact by fact. */
        private void countBySets() {
            Arrays.fill(balances, 0);
            Arrays.fill(decided, 0);
            for (int i = 0; i < longs.size; i++) {
                for (int k = 0; k < shorts.size; k++) {
                    int sign = compare(i, k);
                    if (sign != 0) {
                        int set = alikeFacts(rows, longs.members[i], shorts.members[k]);
                        balances[set] += sign;
                        decided[set]++;
                    }
                }
            }
            for (int fact = 0; fact < FACTS; fact++) {
                int bit = 1 << fact;
                for (int set = 0; set < SETS; set++) {
                    if ((set & bit) == 0) {
                        balances[set] += balances[set | bit];
                        decided[set] += decided[set | bit];
                    }
                }
            }
        }

        /** WON less LOST of each WAY: the BEST one. */
        int scoreWays() {
            Arrays.fill(scores, 0);
            for (int i = 0; i < longs.size; i++) {
                int way = ways[longs.members[i]];
                for (int k = 0; k < shorts.size; k++) {
                    if (ways[shorts.members[k]] == way) {
                        scores[way] += compare(i, k);
                    }
                }
            }
            int best = 0;
            for (int way = 1; way < WAYS; way++) {
                if (scores[way] > scores[best]) {
                    best = way;
                }
            }
            return best;
        }

        void shuffle(Draws draws) {
            for (int i = found.size - 1; i > 0; i--) {
                int k = draws.draw(i + 1);
                int one = found.members[i];
                int other = found.members[k];
                int thing = things[one];
                things[one] = things[other];
                things[other] = thing;
            }
        }
    }

    /** A WORLD that was drawn, with the children's rows as they were then. */
    private static final class World {
        static final int TAKES = 1;
        static final int FOUND = 2;
        private static final int COLUMNS = 3;

        final int[] rows = new int[CHILDREN_MOST * WIDTH];
        private final int[] tells = new int[CHILDREN_MOST * COLUMNS];
        int size = 0;
        boolean stands = false;

        /** How many wait to END. */
        int play(Children children, Law law, Asked asked, Draws draws) {
            System.arraycopy(children.rows, 0, rows, 0, rows.length);
            size = children.size;
            stands = true;
            int minutes = children.rules[TERM_END];
            int lasted = 0;
            for (int child = 0; child < size && child < CHILDREN_MOST; child++) {
                asked.ask(rows, child);
                int waited = waitOut(law, minutes, asked, draws);
                asked.words[TENTHS] = 10 * waited;
                tells[child * COLUMNS] = waited;
                tells[child * COLUMNS + TAKES] = waited < minutes ? 1 : 0;
                tells[child * COLUMNS + FOUND] = asked.laterBy(law);
                if (waited >= minutes) {
                    lasted++;
                }
            }
            return lasted;
        }

        private static int waitOut(Law law, int minutes, Asked asked, Draws draws) {
            int minute = 0;
            while (minute < minutes && draws.draw(100) >= asked.chanceBy(law, minute)) {
                minute++;
            }
            return minute;
        }

        int at(int child, int what) {
            boolean there = within(child, 0, CHILDREN_MOST - 1) && within(what, 0, COLUMNS - 1);
            return there ? tells[child * COLUMNS + what] : NONE;
        }

        int sum(int what) {
            int sum = 0;
            for (int child = 0; child < size; child++) {
                sum += at(child, what);
            }
            return sum;
        }
    }

    /** DRAWS from a SEED. */
    private static final class Draws {
        private int s = 0;

        void start(int seed) {
            s = seed;
        }

        int draw(int n) {
            s = (s * 1103 + 12345) % 1000003;
            return n < 1 ? 0 : s % n;
        }
    }
}
