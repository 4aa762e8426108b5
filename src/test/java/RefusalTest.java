import java.util.ArrayList;
import java.util.List;

/**
 * "Refusals, the first that fits: .. They change nothing else": each call of the face with numbers
 * that are refused, on objects that hold something everywhere. A twin of the object goes without
 * the refused call, and all that both tell afterwards must be alike, but for a finding count() 6.
 */
public final class RefusalTest {
    private static final int NONE = -1, BAD = -2, NOT = -3, FULL = -4, WIDE = -5;
    private static final int NULL = -11, INDEX = -12, CAST = -13, STORE = -14, SIZE = -15;
    private static final int LEAST = Integer.MIN_VALUE, MOST = Integer.MAX_VALUE;
    private static final int LEAST_WIDE = Integer.MIN_VALUE + 1;
    private static final long LONG_BAD = Long.MIN_VALUE + 2, LONG_WIDE = Long.MIN_VALUE + 5;
    private static final int BYTES = 0, SHORTS = 1, INTS = 2;
    /** The finding that an object of busy() begins with. */
    private static final int FINDING = 4;

    private static int wrong = 0;
    private static int seen = 0;

    private interface Maker {
        FairFight make();
    }

    private interface Call {
        long on(FairFight x);
    }

    private static void due(String what, long got, long want) {
        seen++;
        if (got != want) {
            wrong++;
            System.out.println(what + " answered " + got + ", due is " + want);
        }
    }

    /** A call that is refused with no finding. */
    private static void refused(Maker maker, String what, long want, Call call) {
        refused(maker, what, want, FINDING, call);
    }

    /** A call that is refused by a finding. */
    private static void finding(Maker maker, String what, long want, int number, Call call) {
        refused(maker, what, want, number, call);
    }

    private static void refused(Maker maker, String what, long want, int number, Call call) {
        FairFight x = maker.make();
        due(what, call.on(x), want);
        due(what + ", then count(6)", x.count(6), number);
        List<String> after = told(x);
        List<String> without = told(maker.make());
        for (int i = 0; i < after.size(); i++) {
            seen++;
            if (!after.get(i).equals(without.get(i))) {
                wrong++;
                System.out.println(what + " changed " + without.get(i) + " to " + after.get(i));
            }
        }
    }

    /** All that an object tells, but for count() 6; the sheets are lost behind it. */
    private static List<String> told(FairFight x) {
        List<String> all = new ArrayList<>();
        for (int what = 0; what < 10; what++) {
            if (what != 6) {
                all.add("count(" + what + ") " + x.count(what));
            }
        }
        for (int f = 0; f < x.count(0); f++) {
            for (int what = 0; what < 6; what++) {
                all.add("about(" + f + ", " + what + ") " + x.about(f, what));
            }
        }
        for (int seat = 0; seat < 6; seat++) {
            all.add("at(" + seat / 3 + ", " + seat % 3 + ") " + x.at(seat / 3, seat % 3));
            all.add("played(" + (10 + seat) + ") " + x.played(10 + seat));
        }
        for (int what = 0; what < 3; what++) {
            all.add("played(" + what + ") " + x.played(what));
            all.add("ways(" + what + ") " + x.ways(what));
        }
        for (int k = 0; k < 8; k++) {
            all.add("band(" + k + ") " + x.band(k));
        }
        for (int f = 0; f < 6; f++) {
            all.add("odds(" + f + ", 0) " + x.odds(f, 0));
            all.add("odds(" + f + ", 1) " + x.odds(f, 1));
        }
        all.add("digest() " + x.digest());
        all.add("day() " + x.day());
        all.add("use() " + x.use());
        toldSheets(x, all);
        return all;
    }

    private static void toldSheets(FairFight x, List<String> all) {
        for (int s = 0; s < 4; s++) {
            for (int form = 0; form < 3; form++) {
                for (int i = 0; i < 6; i++) {
                    all.add("get(" + s + ", " + form + ", " + i + ") " + x.get(s, form, i));
                }
            }
            all.add("lose(" + s + ") " + x.lose(s));
        }
    }

    private static int add(FairFight x, int... n) {
        return x.fighter(n[0], n[1], n[2], n[3], n[4], n[5]);
    }

    private static void fill(FairFight x, int s, int form, int... items) {
        x.sheet(s, form, items.length);
        for (int i = 0; i < items.length; i++) {
            x.put(s, form, i, items[i]);
        }
    }

    /** Something everywhere: sheets 0 ints, 1 bytes, 2 shorts of no items, 3 lost. */
    private static FairFight busy() {
        FairFight x = new FairFight();
        add(x, 0, 3, 4, 2, 0, 5);
        add(x, 1, 2, 3, 1, 1, 4);
        add(x, 2, 4, 5, 2, 0, 6);
        add(x, 0, 2, 2, 3, 0, 5);
        x.side(0, 0, 2, NONE);
        x.side(1, 1, 3, NONE);
        x.laws(2, 1, 1);
        x.fight(1, NONE, NONE);
        x.fight(3, 1, NONE);
        x.purse(2, 3);
        x.wish(300000, 900000);
        fill(x, 0, INTS, 1, 6, 2, 5, 3);
        fill(x, 1, BYTES, 1, 1, 1, 1, 1, 1);
        x.sheet(2, SHORTS, 0);
        x.play(1);
        x.copy(0, 0, 1, 0, 0);
        return x;
    }

    /** 16 fighters and 6 fights. */
    private static FairFight full() {
        FairFight x = busy();
        while (x.count(0) < 16) {
            add(x, 0, x.count(0), 1, 1, 0, 0);
        }
        for (int f = x.count(5); f < 6; f++) {
            x.fight(f, NONE, NONE);
        }
        return x;
    }

    /** 24 slots. */
    private static FairFight wide() {
        FairFight x = busy();
        x.laws(6, 0, 0);
        return x;
    }

    /** 401 states: too wide by one. */
    private static FairFight tooWide() {
        FairFight x = busy();
        int first = add(x, 0, 15, 1, 8, 0, 4);
        add(x, 0, 20, 3, 2, 0, 8);
        add(x, 0, 16, 4, 4, 0, 4);
        add(x, 0, 15, 2, 1, 0, 6);
        add(x, 0, 15, 2, 5, 0, 4);
        x.side(0, first, first + 1, NONE);
        x.side(1, first + 2, first + 3, first + 4);
        x.laws(4, 0, NONE);
        return x;
    }

    private static FairFight noHeroes() {
        FairFight x = busy();
        x.side(0, NONE, NONE, NONE);
        return x;
    }

    private static FairFight noFights() {
        FairFight x = busy();
        x.rest();
        return x;
    }

    private static void fighters() {
        int[] good = {0, 5, 3, 2, 1, 4};
        int[] high = {2, 20, 6, 9, 19, 9};
        int[] low = {0, 1, 0, 1, 0, 0};
        for (int what = 0; what < 6; what++) {
            for (int v : new int[] {low[what] - 1, high[what] + 1, LEAST, MOST}) {
                int[] n = good.clone();
                n[what] = v;
                refused(RefusalTest::busy, "fighter", BAD, x -> add(x, n));
                refused(RefusalTest::full, "fighter: bad ahead of full", BAD, x -> add(x, n));
                int number = what;
                refused(RefusalTest::busy, "tune", BAD, x -> x.tune(0, number, v));
            }
        }
        refused(RefusalTest::full, "fighter", FULL, x -> add(x, good));
        for (int odd : new int[] {-1, 4, LEAST, MOST}) {
            refused(RefusalTest::busy, "about", BAD, x -> x.about(odd, 1));
            refused(RefusalTest::busy, "tune", BAD, x -> x.tune(odd, 1, 1));
            refused(RefusalTest::busy, "better", LEAST, x -> x.better(odd, 1));
        }
        for (int odd : new int[] {-1, 6, LEAST, MOST}) {
            refused(RefusalTest::busy, "about", BAD, x -> x.about(0, odd));
            refused(RefusalTest::busy, "tune", BAD, x -> x.tune(0, odd, 1));
            refused(RefusalTest::busy, "better", LEAST, x -> x.better(0, odd));
        }
        refused(RefusalTest::busy, "tune of the kind", BAD, x -> x.tune(0, 0, 1));
        refused(RefusalTest::busy, "better of the kind", LEAST, x -> x.better(0, 0));
    }

    private static void sides() {
        for (int odd : new int[] {-2, 4, LEAST, MOST}) {
            refused(RefusalTest::busy, "side", BAD, x -> x.side(0, odd, NONE, NONE));
            refused(RefusalTest::busy, "side", BAD, x -> x.side(0, 1, odd, NONE));
            refused(RefusalTest::busy, "side", BAD, x -> x.side(1, 1, 1, odd));
            refused(RefusalTest::busy, "fight", BAD, x -> x.fight(odd, NONE, NONE));
            refused(RefusalTest::busy, "fight", BAD, x -> x.fight(1, odd, NONE));
            refused(RefusalTest::busy, "fight", BAD, x -> x.fight(1, 1, odd));
        }
        for (int odd : new int[] {-1, 2, LEAST, MOST}) {
            refused(RefusalTest::busy, "side", BAD, x -> x.side(odd, 3, NONE, NONE));
            refused(RefusalTest::busy, "at", BAD, x -> x.at(odd, 0));
            refused(RefusalTest::busy, "laws: aim", BAD, x -> x.laws(4, odd, NONE));
        }
        refused(RefusalTest::busy, "side", BAD, x -> x.side(0, NONE, 1, NONE));
        refused(RefusalTest::busy, "side", BAD, x -> x.side(0, NONE, NONE, 1));
        refused(RefusalTest::busy, "side", BAD, x -> x.side(0, 1, NONE, 1));
        for (int odd : new int[] {-1, 3, LEAST, MOST}) {
            refused(RefusalTest::busy, "at", BAD, x -> x.at(1, odd));
            refused(RefusalTest::busy, "without", BAD, x -> x.without(odd));
        }
        for (int odd : new int[] {0, 7, LEAST, MOST}) {
            refused(RefusalTest::busy, "laws: rounds", BAD, x -> x.laws(odd, 0, NONE));
        }
        for (int odd : new int[] {-2, 2, LEAST, MOST}) {
            refused(RefusalTest::busy, "laws: surprised", BAD, x -> x.laws(4, 0, odd));
            refused(RefusalTest::busy, "surprised", BAD, x -> x.surprised(odd));
            refused(RefusalTest::wide, "surprised: bad ahead of wide", BAD, x -> x.surprised(odd));
        }
    }

    private static void odds() {
        Maker[] wides = {RefusalTest::wide, RefusalTest::tooWide};
        for (Maker wide : wides) {
            refused(wide, "all", LONG_WIDE, x -> x.all());
            refused(wide, "ways", LONG_WIDE, x -> x.ways(0));
            refused(wide, "chance", WIDE, x -> x.chance());
            refused(wide, "left", LONG_WIDE, x -> x.left(0, 0, 1, 1));
            refused(wide, "states", WIDE, x -> x.states());
            refused(wide, "ends", LONG_WIDE, x -> x.ends(0));
            refused(wide, "better", LEAST_WIDE, x -> x.better(2, 1));
            refused(wide, "surprised", WIDE, x -> x.surprised(NONE));
            refused(wide, "ways: bad ahead of wide", LONG_BAD, x -> x.ways(3));
            refused(wide, "left: bad ahead of wide", LONG_BAD, x -> x.left(0, 2, 1, 1));
            refused(wide, "ends: bad ahead of wide", LONG_BAD, x -> x.ends(7));
            refused(wide, "better: bad ahead of wide", LEAST, x -> x.better(2, 6));
            refused(wide, "without: bad ahead of wide", BAD, x -> x.without(2));
        }
        refused(RefusalTest::wide, "without, still wide", WIDE, x -> {
            x.side(0, 0, 2, 2);
            long answer = x.without(0);
            x.side(0, 0, 2, NONE);
            return answer;
        });
        for (int odd : new int[] {-1, 3, LEAST, MOST}) {
            refused(RefusalTest::busy, "ways", LONG_BAD, x -> x.ways(odd));
            refused(RefusalTest::busy, "ends", LONG_BAD, x -> x.ends(odd));
            refused(RefusalTest::busy, "left", LONG_BAD, x -> x.left(odd, 0, 1, 1));
            refused(RefusalTest::busy, "left", LONG_BAD, x -> x.left(0, odd, 1, 1));
            refused(RefusalTest::busy, "left", LONG_BAD, x -> x.left(0, 0, 1, odd));
        }
        for (int odd : new int[] {-1, 21, LEAST, MOST}) {
            refused(RefusalTest::busy, "left", LONG_BAD, x -> x.left(0, 0, odd, 1));
        }
        refused(RefusalTest::noHeroes, "left of nobody", LONG_BAD, x -> x.left(0, 0, 1, 1));
        refused(RefusalTest::noHeroes, "without nobody", BAD, x -> x.without(0));
    }

    private static void days() {
        refused(RefusalTest::busy, "fight", BAD, x -> x.fight(NONE, NONE, NONE));
        refused(RefusalTest::busy, "fight", BAD, x -> x.fight(NONE, 1, NONE));
        refused(RefusalTest::busy, "fight", BAD, x -> x.fight(1, NONE, 1));
        refused(RefusalTest::full, "fight", FULL, x -> x.fight(1, 2, 3));
        refused(RefusalTest::full, "fight: bad ahead of full", BAD, x -> x.fight(16, 2, 3));
        refused(RefusalTest::full, "fight: bad ahead of full", BAD, x -> x.fight(NONE, NONE, NONE));
        for (int odd : new int[] {-1, 7, LEAST, MOST}) {
            refused(RefusalTest::busy, "purse", BAD, x -> x.purse(odd, 5));
        }
        for (int odd : new int[] {0, 10, LEAST, MOST}) {
            refused(RefusalTest::busy, "purse: bonus", BAD, x -> x.purse(5, odd));
        }
        for (int odd : new int[] {-1, 2, LEAST, MOST}) {
            refused(RefusalTest::busy, "odds", BAD, x -> x.odds(odd, 0));
            refused(RefusalTest::busy, "odds: bonus", BAD, x -> x.odds(0, odd));
            refused(RefusalTest::noHeroes, "odds: bad ahead of not", BAD, x -> x.odds(odd, 0));
        }
        refused(RefusalTest::noHeroes, "odds", NOT, x -> x.odds(0, 1));
        refused(RefusalTest::noHeroes, "day", NOT, x -> x.day());
        refused(RefusalTest::noHeroes, "use", NOT, x -> x.use());
        refused(RefusalTest::noFights, "day", NOT, x -> x.day());
        refused(RefusalTest::noFights, "use", NOT, x -> x.use());
        refused(RefusalTest::noFights, "odds", BAD, x -> x.odds(0, 0));
        // 2 heroes, 2 foes, 6 rounds: the second fight has 24 slots
        refused(RefusalTest::wide, "odds", WIDE, x -> x.odds(1, 0));
        refused(RefusalTest::wide, "odds with bonus", WIDE, x -> x.odds(1, 1));
        refused(RefusalTest::wide, "day", WIDE, x -> x.day());
        refused(RefusalTest::wide, "use", WIDE, x -> x.use());
        int[][] wishes = {{-1, 5}, {5, 1000001}, {6, 5}, {1000000, 0}, {1000001, 1000001},
            {LEAST, MOST}, {MOST, LEAST}, {LEAST, LEAST}, {MOST, MOST}};
        for (int[] w : wishes) {
            refused(RefusalTest::busy, "wish", BAD, x -> x.wish(w[0], w[1]));
            refused(RefusalTest::noHeroes, "wish: bad ahead of not", BAD, x -> x.wish(w[0], w[1]));
        }
        refused(RefusalTest::noHeroes, "wish", NOT, x -> x.wish(0, 1000000));
        for (int odd : new int[] {-1, 27, LEAST, MOST}) {
            refused(RefusalTest::busy, "band", BAD, x -> x.band(odd));
        }
    }

    private static void sheets() {
        for (int odd : new int[] {-1, 4, LEAST, MOST}) {
            refused(RefusalTest::busy, "sheet", BAD, x -> x.sheet(odd, 0, 1));
            refused(RefusalTest::busy, "sheet: bad ahead of size", BAD, x -> x.sheet(odd, 0, -1));
            refused(RefusalTest::busy, "lose", BAD, x -> x.lose(odd));
            refused(RefusalTest::busy, "put", BAD, x -> x.put(odd, 2, 0, 9));
            refused(RefusalTest::busy, "get", LEAST, x -> x.get(odd, 2, 0));
            refused(RefusalTest::busy, "copy", BAD, x -> x.copy(odd, 0, 0, 0, 1));
            refused(RefusalTest::busy, "copy", BAD, x -> x.copy(0, 0, odd, 0, 1));
            refused(RefusalTest::busy, "copy: bad ahead of null", BAD,
                x -> x.copy(3, 0, odd, 0, 1));
            refused(RefusalTest::busy, "shake", BAD, x -> x.shake(odd, 7));
            refused(RefusalTest::busy, "play", BAD, x -> x.play(odd));
        }
        for (int odd : new int[] {-1, 3, LEAST, MOST}) {
            refused(RefusalTest::busy, "sheet: form", BAD, x -> x.sheet(0, odd, 1));
            refused(RefusalTest::busy, "sheet: bad ahead of size", BAD, x -> x.sheet(0, odd, -1));
            refused(RefusalTest::busy, "put: form", BAD, x -> x.put(0, odd, 0, 9));
            refused(RefusalTest::busy, "put: bad ahead of null", BAD, x -> x.put(3, odd, 0, 9));
            refused(RefusalTest::busy, "get: form", LEAST, x -> x.get(0, odd, 0));
            refused(RefusalTest::busy, "played", BAD, x -> x.played(odd));
        }
        refused(RefusalTest::busy, "sheet of 61", BAD, x -> x.sheet(0, 0, 61));
        refused(RefusalTest::busy, "sheet of many", BAD, x -> x.sheet(0, 0, MOST));
        finding(RefusalTest::busy, "sheet of -1", SIZE, 5, x -> x.sheet(0, 0, -1));
        finding(RefusalTest::busy, "sheet of the least", SIZE, 5, x -> x.sheet(0, 0, LEAST));
        for (int odd : new int[] {-1, 10, LEAST, MOST}) {
            refused(RefusalTest::busy, "count", BAD, x -> x.count(odd));
        }
        findings();
    }

    private static void findings() {
        Maker busy = RefusalTest::busy;
        finding(busy, "lose", NULL, 1, x -> x.lose(3));
        finding(busy, "shake", NULL, 1, x -> x.shake(3, 7));
        finding(busy, "play", NULL, 1, x -> x.play(3));
        finding(busy, "play: too few items", INDEX, 2, x -> x.play(2));
        for (int i : new int[] {-1, 5, 60, LEAST, MOST}) {
            finding(busy, "put: null ahead of all", NULL, 1, x -> x.put(3, BYTES, i, 9));
            finding(busy, "put: cast ahead of index", CAST, 3, x -> x.put(0, BYTES, i, 9));
            finding(busy, "put: index", INDEX, 2, x -> x.put(0, INTS, i, 9));
            finding(busy, "get: null ahead of all", LEAST, 1, x -> x.get(3, BYTES, i));
            finding(busy, "get: cast ahead of index", LEAST, 3, x -> x.get(0, SHORTS, i));
            finding(busy, "get: index", LEAST, 2, x -> x.get(0, INTS, i));
        }
        finding(busy, "put: cast", CAST, 3, x -> x.put(1, SHORTS, 0, 9));
        finding(busy, "get: cast", LEAST, 3, x -> x.get(1, INTS, 0));
        finding(busy, "copy: null: s", NULL, 1, x -> x.copy(3, 0, 0, 0, 1));
        finding(busy, "copy: null: t", NULL, 1, x -> x.copy(0, 0, 3, 0, 1));
        finding(busy, "copy: null ahead of index", NULL, 1, x -> x.copy(3, -1, 0, 9, 70));
        // a store is what busy() has last found, so another finding comes between
        finding(busy, "copy: store", STORE, 4, x -> {
            x.lose(3);
            return x.copy(0, 0, 1, 0, 1);
        });
        finding(busy, "copy: store ahead of index", STORE, 4, x -> {
            x.lose(3);
            return x.copy(0, -1, 1, 9, 70);
        });
        int[][] beyond = {{-1, 0, 1}, {0, -1, 1}, {0, 0, -1}, {0, 0, 6}, {2, 0, 4}, {0, 2, 4},
            {6, 0, 0}, {0, 6, 0}, {1, 1, MOST}, {MOST, 1, 1}, {1, MOST, 1}, {LEAST, LEAST, LEAST},
            {MOST, MOST, MOST}};
        for (int[] b : beyond) {
            finding(busy, "copy: index", INDEX, 2, x -> x.copy(0, b[0], 0, b[1], b[2]));
        }
        finding(busy, "copy: index, to no items", INDEX, 2, x -> {
            x.sheet(2, INTS, 0);
            long answer = x.copy(0, 0, 2, 0, 1);
            x.sheet(2, SHORTS, 0);
            return answer;
        });
    }

    /** However far a fight came by too few items, it tells nothing of it. */
    private static void playedTooShort() {
        for (int items = 0; items < 6; items++) {
            int n = items;
            Maker maker = () -> {
                FairFight x = busy();
                x.laws(2, 0, NONE);
                fill(x, 0, INTS, new int[n]);
                return x;
            };
            finding(maker, "play of " + n + " items", INDEX, 2, x -> x.play(0));
        }
    }

    public static void main(String[] args) {
        fighters();
        sides();
        odds();
        days();
        sheets();
        playedTooShort();
        System.out.println(wrong == 0 ? "all " + seen + " answers are as due"
            : wrong + " answers of " + seen + " are not as due");
        if (wrong != 0) {
            System.exit(1);
        }
    }
}
