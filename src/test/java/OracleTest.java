import java.math.BigInteger;
import java.util.ArrayList;
import java.util.Arrays;
import java.util.HashMap;
import java.util.List;
import java.util.Map;

/**
 * Random runs of calls, each answer held against a second, slow reading of the document (Model), and
 * so are fights of many states; small fights are held against the playing of every single way there
 * is (every).
 */
public final class OracleTest {
    private static int wrong = 0;
    private static int seen = 0;
    private static final Map<String, Integer> kinds = new HashMap<>();

    /** A number sequence of our own, so that every run of the test is the same. */
    private static final class Dice {
        private long state;

        Dice(long seed) {
            state = seed * 2862933555777941757L + 3037000493L;
        }

        int below(int n) {
            state = state * 6364136223846793005L + 1442695040888963407L;
            return (int) ((state >>> 33) % n);
        }

        int from(int low, int high) {
            return low + below(high - low + 1);
        }

        boolean oneIn(int n) {
            return below(n) == 0;
        }
    }

    private static final class TooWide extends Exception {
        private static final long serialVersionUID = 1;
    }

    private static final class Someone {
        int side;
        int place;
        int kind;
        int life;
        int most;
        int hit;
        int force;
        int flee;
        int speed;
        boolean up = true;

        Someone copy() {
            Someone s = new Someone();
            s.side = side;
            s.place = place;
            s.kind = kind;
            s.life = life;
            s.most = most;
            s.hit = hit;
            s.force = force;
            s.flee = flee;
            s.speed = speed;
            s.up = up;
            return s;
        }
    }

    /** One fight as the document's "Terms" 1 tells it, moved on turn by turn. */
    private static final class Field {
        List<Someone> all = new ArrayList<>();
        int aim;

        Field copy() {
            Field f = new Field();
            f.aim = aim;
            for (Someone s : all) {
                f.all.add(s.copy());
            }
            return f;
        }

        boolean anyUp(int side) {
            for (Someone s : all) {
                if (s.side == side && s.up) {
                    return true;
                }
            }
            return false;
        }

        int winner() {
            if (!anyUp(0)) {
                return 1;
            }
            return anyUp(1) ? -1 : 0;
        }

        List<Someone> upOf(int side) {
            List<Someone> up = new ArrayList<>();
            for (Someone s : all) {
                if (s.side == side && s.up) {
                    up.add(s);
                }
            }
            up.sort((x, y) -> Integer.compare(x.place, y.place));
            return up;
        }

        static Someone weakest(List<Someone> some) {
            Someone best = some.get(0);
            for (Someone s : some) {
                if (s.life < best.life) {
                    best = s;
                }
            }
            return best;
        }

        static void lose(Someone s, int force) {
            s.life -= force;
            if (s.life <= 0) {
                s.life = 0;
                s.up = false;
            }
        }

        void hit(Someone who) {
            List<Someone> others = upOf(1 - who.side);
            if (who.kind == 0) {
                lose(aim == 0 ? others.get(0) : weakest(others), who.force);
            } else if (who.kind == 1) {
                for (Someone s : others) {
                    lose(s, who.force);
                }
            } else {
                Someone s = weakest(upOf(who.side));
                s.life = Math.min(s.most, s.life + who.force);
            }
        }

        /** 0 no turn, 1 it flees, 2 it rolls. */
        static int turnOf(Someone who, int round, int surprised) {
            if (!who.up || (round == 1 && who.side == surprised)) {
                return 0;
            }
            return who.life <= who.flee ? 1 : 2;
        }

        List<Integer> key() {
            List<Integer> key = new ArrayList<>();
            for (Someone s : all) {
                key.add(s.life);
                key.add(s.up ? 1 : 0);
            }
            return key;
        }
    }

    private static final class Result {
        BigInteger all = BigInteger.ONE;
        BigInteger[] ends = {BigInteger.ZERO, BigInteger.ZERO, BigInteger.ZERO};
        BigInteger[] rounds = new BigInteger[7];
        Map<List<Integer>, BigInteger> left = new HashMap<>();
        int states = 0;

        Result() {
            Arrays.fill(rounds, BigInteger.ZERO);
        }

        void end(Field f, int end, int round, BigInteger ways) {
            ends[end] = ends[end].add(ways);
            if (end != 2) {
                rounds[round] = rounds[round].add(ways);
            }
            for (Someone s : f.all) {
                left.merge(List.of(s.side, s.place, s.life, s.up ? 1 : 0), ways, BigInteger::add);
            }
        }

        int chance() {
            return BigInteger.valueOf(1000000).multiply(ends[0]).divide(all).intValueExact();
        }
    }

    private static final class Entry {
        Field field;
        BigInteger ways;
    }

    private static void join(Map<List<Integer>, Entry> map, Field f, BigInteger ways) {
        Entry e = map.computeIfAbsent(f.key(), k -> {
            Entry n = new Entry();
            n.field = f;
            n.ways = BigInteger.ZERO;
            return n;
        });
        e.ways = e.ways.add(ways);
    }

    /** All ways of a fight, state by state. */
    private static Result reckon(Field begin, int rounds, int surprised) throws TooWide {
        int slots = rounds * begin.all.size();
        if (slots > 22) {
            throw new TooWide();
        }
        Result r = new Result();
        r.all = BigInteger.valueOf(6).pow(slots);
        if (begin.winner() >= 0) {
            r.end(begin, begin.winner(), 0, r.all);
            return r;
        }
        Map<List<Integer>, Entry> now = new HashMap<>();
        join(now, begin, BigInteger.ONE);
        for (int slot = 0; slot < slots; slot++) {
            r.states = Math.max(r.states, now.size());
            if (now.size() > 400) {
                throw new TooWide();
            }
            int round = slot / begin.all.size() + 1;
            BigInteger behind = BigInteger.valueOf(6).pow(slots - 1 - slot);
            Map<List<Integer>, Entry> next = new HashMap<>();
            for (Entry e : now.values()) {
                Someone who = e.field.all.get(slot % begin.all.size());
                for (int roll = 1; roll <= 6; roll++) {
                    Field f = e.field.copy();
                    Someone me = f.all.get(slot % begin.all.size());
                    int turn = Field.turnOf(who, round, surprised);
                    if (turn == 1) {
                        me.up = false;
                    } else if (turn == 2 && roll <= who.hit) {
                        f.hit(me);
                    }
                    if (f.winner() >= 0) {
                        r.end(f, f.winner(), round, e.ways.multiply(behind));
                    } else if (slot == slots - 1) {
                        r.end(f, 2, round, e.ways);
                    } else {
                        join(next, f, e.ways);
                    }
                }
            }
            now = next;
        }
        return r;
    }

    /** Every single way of a small fight, played from its beginning. */
    private static Result every(Field begin, int rounds, int surprised) {
        int slots = rounds * begin.all.size();
        Result r = new Result();
        r.all = BigInteger.valueOf(6).pow(slots);
        int ways = r.all.intValueExact();
        for (int way = 0; way < ways; way++) {
            Field f = begin.copy();
            int rest = way;
            int round = 0;
            for (int slot = 0; slot < slots && f.winner() < 0; slot++) {
                round = slot / f.all.size() + 1;
                int roll = rest % 6 + 1;
                rest /= 6;
                Someone me = f.all.get(slot % f.all.size());
                int turn = Field.turnOf(me, round, surprised);
                if (turn == 1) {
                    me.up = false;
                } else if (turn == 2 && roll <= me.hit) {
                    f.hit(me);
                }
            }
            r.end(f, f.winner() < 0 ? 2 : f.winner(), round, BigInteger.ONE);
        }
        return r;
    }

    /** The whole face once more, in the slowest and plainest way. */
    private static final class Model {
        static final int[] LOW = {0, 1, 0, 1, 0, 0};
        static final int[] HIGH = {2, 20, 6, 9, 19, 9};
        List<int[]> fighters = new ArrayList<>();
        List<List<Integer>> sides = new ArrayList<>(List.of(List.of(), List.of()));
        int rounds = 3;
        int aim = 0;
        int surprise = -1;
        List<List<Integer>> fights = new ArrayList<>();
        int purse = 1;
        int bonus = 1;
        List<Integer> bands = new ArrayList<>();
        int finding = 0;
        int[] played = {0, 0, 0};
        Map<Integer, Integer> playedLives = new HashMap<>();
        long[][] sheets = new long[4][];
        int[] forms = new int[4];
        private Result kept = null;
        private String keptFor = "";

        boolean fits(int what, int v) {
            return what >= 0 && what <= 5 && v >= LOW[what] && v <= HIGH[what];
        }

        Field field(List<Integer> heroes, List<Integer> foes, int more) {
            Field f = new Field();
            f.aim = aim;
            for (int s = 0; s < 2; s++) {
                List<Integer> row = s == 0 ? heroes : foes;
                for (int p = 0; p < row.size(); p++) {
                    int[] n = fighters.get(row.get(p));
                    Someone x = new Someone();
                    x.side = s;
                    x.place = p;
                    x.kind = n[0];
                    x.life = n[1];
                    x.most = n[1];
                    x.hit = n[2];
                    x.force = n[3] + (s == 0 ? more : 0);
                    x.flee = n[4];
                    x.speed = n[5];
                    f.all.add(x);
                }
            }
            f.all.sort((x, y) -> x.speed != y.speed ? y.speed - x.speed
                : x.side != y.side ? x.side - y.side : x.place - y.place);
            return f;
        }

        Result fight() throws TooWide {
            Field f = field(sides.get(0), sides.get(1), 0);
            StringBuilder text = new StringBuilder(rounds + " " + aim + " " + surprise + " " + sides);
            for (int[] n : fighters) {
                text.append(Arrays.toString(n));
            }
            if (kept == null || !keptFor.equals(text.toString())) {
                kept = null;
                keptFor = text.toString();
                kept = reckon(f, rounds, surprise);
            }
            return kept;
        }

        int chance(List<Integer> heroes, List<Integer> foes, int more, int surprised) {
            try {
                return reckon(field(heroes, foes, more), rounds, surprised).chance();
            } catch (TooWide e) {
                return -5;
            }
        }

        List<Integer> row(int a, int b, int c) {
            List<Integer> row = new ArrayList<>();
            boolean none = false;
            for (int f : new int[] {a, b, c}) {
                if (f == -1) {
                    none = true;
                } else if (none || f < 0 || f >= fighters.size()) {
                    return null;
                } else {
                    row.add(f);
                }
            }
            return row;
        }

        long bad(int why) {
            return Long.MIN_VALUE + why;
        }

        long fighter(int[] n) {
            for (int what = 0; what < 6; what++) {
                if (!fits(what, n[what])) {
                    return -2;
                }
            }
            if (fighters.size() == 16) {
                return -4;
            }
            fighters.add(n.clone());
            return fighters.size() - 1;
        }

        long about(int f, int what) {
            return f < 0 || f >= fighters.size() || what < 0 || what > 5 ? -2 : fighters.get(f)[what];
        }

        long tune(int f, int what, int v) {
            if (f < 0 || f >= fighters.size() || what < 1 || !fits(what, v)) {
                return -2;
            }
            int was = fighters.get(f)[what];
            fighters.get(f)[what] = v;
            return was;
        }

        long side(int s, int a, int b, int c) {
            List<Integer> row = row(a, b, c);
            if (row == null || s < 0 || s > 1) {
                return -2;
            }
            sides.set(s, row);
            return row.size();
        }

        long at(int s, int p) {
            if (s < 0 || s > 1 || p < 0 || p > 2) {
                return -2;
            }
            return p < sides.get(s).size() ? sides.get(s).get(p) : -1;
        }

        long laws(int r, int a, int s) {
            if (r < 1 || r > 6 || a < 0 || a > 1 || s < -1 || s > 1) {
                return -2;
            }
            rounds = r;
            aim = a;
            surprise = s;
            return 1;
        }

        long slots() {
            return rounds * (sides.get(0).size() + sides.get(1).size());
        }

        long all() {
            try {
                return fight().all.longValueExact();
            } catch (TooWide e) {
                return bad(5);
            }
        }

        long ways(int end) {
            if (end < 0 || end > 2) {
                return bad(2);
            }
            try {
                return fight().ends[end].longValueExact();
            } catch (TooWide e) {
                return bad(5);
            }
        }

        long chance() {
            try {
                return fight().chance();
            } catch (TooWide e) {
                return -5;
            }
        }

        long left(int s, int p, int life, int up) {
            if (at(s, p) < 0 || life < 0 || life > 20 || up < 0 || up > 1) {
                return bad(2);
            }
            try {
                return fight().left.getOrDefault(List.of(s, p, life, up), BigInteger.ZERO)
                    .longValueExact();
            } catch (TooWide e) {
                return bad(5);
            }
        }

        long states() {
            try {
                return fight().states;
            } catch (TooWide e) {
                return -5;
            }
        }

        long ends(int r) {
            if (r < 0 || r > rounds) {
                return bad(2);
            }
            try {
                return fight().rounds[r].longValueExact();
            } catch (TooWide e) {
                return bad(5);
            }
        }

        long better(int f, int what) {
            if (about(f, what) == -2 || what == 0 || !fits(what, (int) about(f, what) + 1)) {
                return Integer.MIN_VALUE;
            }
            long before = chance();
            fighters.get(f)[what]++;
            long after = chance();
            fighters.get(f)[what]--;
            return before == -5 || after == -5 ? Integer.MIN_VALUE + 1 : after - before;
        }

        long without(int p) {
            if (at(0, p) < 0) {
                return -2;
            }
            List<Integer> heroes = new ArrayList<>(sides.get(0));
            heroes.remove(p);
            return chance(heroes, sides.get(1), 0, surprise);
        }

        long surprised(int s) {
            return s < -1 || s > 1 ? -2 : chance(sides.get(0), sides.get(1), 0, s);
        }

        long fight(int a, int b, int c) {
            List<Integer> row = row(a, b, c);
            if (row == null || row.isEmpty()) {
                return -2;
            }
            if (fights.size() == 6) {
                return -4;
            }
            fights.add(row);
            return fights.size();
        }

        long rest() {
            int was = fights.size();
            fights.clear();
            return was;
        }

        long purse(int p, int b) {
            if (p < 0 || p > 6 || b < 1 || b > 9) {
                return -2;
            }
            purse = p;
            bonus = b;
            return 1;
        }

        /** The sum, then the set; or a refusal alone. */
        long[] best() {
            if (fights.isEmpty() || sides.get(0).isEmpty()) {
                return new long[] {-3};
            }
            int n = fights.size();
            int[][] chances = new int[n][2];
            for (int f = 0; f < n; f++) {
                for (int with = 0; with < 2; with++) {
                    chances[f][with] = chance(sides.get(0), fights.get(f), with * bonus, surprise);
                    if (chances[f][with] == -5) {
                        return new long[] {-5};
                    }
                }
            }
            long[] best = null;
            for (int size = 0; size <= Math.min(purse, n); size++) {
                for (int set = 0; set < 1 << n; set++) {
                    if (Integer.bitCount(set) != size) {
                        continue;
                    }
                    long sum = 0;
                    for (int f = 0; f < n; f++) {
                        sum += chances[f][set >> f & 1];
                    }
                    if (best == null || sum > best[0]) {
                        best = new long[] {sum, set};
                    }
                }
            }
            return best;
        }

        long day() {
            return best()[0];
        }

        long use() {
            long[] best = best();
            return best.length == 1 ? best[0] : best[1];
        }

        long odds(int f, int b) {
            if (f < 0 || f >= fights.size() || b < 0 || b > 1) {
                return -2;
            }
            if (sides.get(0).isEmpty()) {
                return -3;
            }
            return chance(sides.get(0), fights.get(f), b * bonus, surprise);
        }

        long wish(int least, int most) {
            if (least < 0 || least > 1000000 || most < 0 || most > 1000000 || least > most) {
                return -2;
            }
            if (sides.get(0).isEmpty()) {
                return -3;
            }
            bands.clear();
            for (int a = 0; a < 6 && a < fighters.size(); a++) {
                int alone = chance(sides.get(0), List.of(a), 0, surprise);
                if (alone != -5 && alone >= least && alone <= most) {
                    bands.add(256 + 16 * a);
                }
                for (int b = a; b < 6 && b < fighters.size(); b++) {
                    int two = chance(sides.get(0), List.of(a, b), 0, surprise);
                    if (two != -5 && two >= least && two <= most) {
                        bands.add(16 * a + b);
                    }
                }
            }
            return bands.size();
        }

        long band(int k) {
            return k < 0 || k >= bands.size() ? -2 : bands.get(k);
        }

        long find(int number) {
            finding = number;
            return -10 - number;
        }

        long play(int s) {
            if (s < 0 || s > 3) {
                return -2;
            }
            if (sheets[s] == null) {
                return find(1);
            }
            Field f = field(sides.get(0), sides.get(1), 0);
            int used = 0;
            int endedIn = 0;
            for (int round = 1; round <= rounds && f.winner() < 0; round++) {
                endedIn = round;
                for (Someone me : f.all) {
                    int turn = f.winner() >= 0 ? 0 : Field.turnOf(me, round, surprise);
                    if (turn == 1) {
                        me.up = false;
                    } else if (turn == 2) {
                        if (used == sheets[s].length) {
                            return find(2);
                        }
                        long roll = sheets[s][used++];
                        if (roll == 1 && me.hit >= 1 || roll == 2 && me.hit >= 2
                            || roll == 3 && me.hit >= 3 || roll == 4 && me.hit >= 4
                            || roll == 5 && me.hit >= 5 || roll == 6 && me.hit >= 6) {
                            f.hit(me);
                        }
                    }
                }
            }
            played = new int[] {f.winner() < 0 ? 2 : f.winner(), used, endedIn};
            playedLives.clear();
            for (Someone x : f.all) {
                playedLives.put(10 + 3 * x.side + x.place, x.life);
            }
            return played[0];
        }

        long played(int what) {
            return what >= 0 && what <= 2 ? played[what] : playedLives.getOrDefault(what, -2);
        }

        boolean badSheet(int s) {
            return s < 0 || s > 3;
        }

        long cut(int form, long v) {
            return form == 0 ? (byte) v : form == 1 ? (short) v : (int) v;
        }

        long sheet(int s, int form, int n) {
            if (badSheet(s) || form < 0 || form > 2 || n > 60) {
                return -2;
            }
            if (n < 0) {
                return find(5);
            }
            sheets[s] = new long[n];
            forms[s] = form;
            return n;
        }

        long lose(int s) {
            if (badSheet(s)) {
                return -2;
            }
            if (sheets[s] == null) {
                return find(1);
            }
            int was = sheets[s].length;
            sheets[s] = null;
            return was;
        }

        long put(int s, int form, int i, int v) {
            if (badSheet(s) || form < 0 || form > 2) {
                return -2;
            }
            if (sheets[s] == null) {
                return find(1);
            }
            if (forms[s] != form) {
                return find(3);
            }
            if (i < 0 || i >= sheets[s].length) {
                return find(2);
            }
            sheets[s][i] = cut(form, v);
            return 1;
        }

        long get(int s, int form, int i) {
            if (badSheet(s) || form < 0 || form > 2) {
                return Integer.MIN_VALUE;
            }
            if (sheets[s] == null) {
                finding = 1;
            } else if (forms[s] != form) {
                finding = 3;
            } else if (i < 0 || i >= sheets[s].length) {
                finding = 2;
            } else {
                return sheets[s][i];
            }
            return Integer.MIN_VALUE;
        }

        long copy(int s, int i, int t, int j, int n) {
            if (badSheet(s) || badSheet(t)) {
                return -2;
            }
            if (sheets[s] == null || sheets[t] == null) {
                return find(1);
            }
            if (forms[s] != forms[t]) {
                return find(4);
            }
            if (i < 0 || j < 0 || n < 0 || (long) i + n > sheets[s].length
                || (long) j + n > sheets[t].length) {
                return find(2);
            }
            long[] were = sheets[s].clone();
            for (int k = 0; k < n; k++) {
                sheets[t][j + k] = were[i + k];
            }
            return 1;
        }

        long shake(int s, int seed) {
            if (badSheet(s)) {
                return -2;
            }
            if (sheets[s] == null) {
                return find(1);
            }
            BigInteger x = BigInteger.valueOf(seed);
            for (int i = 0; i < sheets[s].length; i++) {
                x = x.multiply(BigInteger.valueOf(1103515245)).add(BigInteger.valueOf(12345))
                    .mod(BigInteger.ONE.shiftLeft(32));
                sheets[s][i] = 1 + x.shiftRight(16).intValueExact() % 6;
            }
            return sheets[s].length;
        }

        long count(int what) {
            int[] counts = {fighters.size(), sides.get(0).size(), sides.get(1).size(), rounds, aim,
                fights.size(), finding, surprise, purse, bonus};
            return what < 0 || what > 9 ? -2 : counts[what];
        }

        long digest() {
            List<Long> numbers = new ArrayList<>();
            for (int what : new int[] {0, 1, 2, 3, 4, 5, 7, 8, 9}) {
                numbers.add(count(what));
            }
            for (int[] n : fighters) {
                for (int x : n) {
                    numbers.add((long) x);
                }
            }
            for (int seat = 0; seat < 6; seat++) {
                numbers.add(at(seat / 3, seat % 3));
            }
            for (int what = 0; what < 3; what++) {
                numbers.add(played(what));
            }
            long h = 17;
            for (long n : numbers) {
                h = 31 * h + n;
            }
            return h;
        }
    }

    private static void due(List<String> run, String call, long got, long want) {
        seen++;
        run.add(call + " = " + got);
        String name = call.substring(0, call.indexOf('('));
        kinds.merge(name + (want < 0 && want != -1 ? " refused" : ""), 1, Integer::sum);
        if (got != want) {
            wrong++;
            if (wrong <= 5) {
                System.out.println(run + ": due is " + want);
            }
        }
    }

    private static int[] numbers(Dice d, boolean gentle) {
        int most = gentle ? 6 : 20;
        int kind = d.oneIn(2) ? 0 : d.below(3);
        int life = d.from(1, most);
        int flee = d.oneIn(2) ? 0 : d.below(d.oneIn(4) ? 20 : 4);
        return new int[] {kind, life, d.from(0, 6), d.from(1, gentle ? 9 : 4), flee, d.below(d.oneIn(2) ? 3 : 10)};
    }

    private static int oddInt(Dice d) {
        int[] odd = {Integer.MIN_VALUE, -1000, -3, -2, -1, 0, 1, 2, 3, 7, 21, 61, 1000001,
            Integer.MAX_VALUE};
        return odd[d.below(odd.length)];
    }

    /** Mostly a number as told, now and then one that is not. */
    private static int mostly(Dice d, int low, int high) {
        return d.oneIn(25) ? oddInt(d) : d.oneIn(15) ? (d.oneIn(2) ? low - 1 : high + 1)
            : d.from(low, high);
    }

    private static int who(Dice d, Model m, int noneIn) {
        if (d.oneIn(40)) {
            return oddInt(d);
        }
        return d.oneIn(noneIn) || m.fighters.isEmpty() ? -1 : d.below(m.fighters.size());
    }

    private static void call(Dice d, FairFight x, Model m, List<String> run, boolean gentle) {
        int a = mostly(d, 0, 3);
        switch (d.below(44)) {
            case 0: case 1: {
                int[] n = numbers(d, gentle);
                if (d.oneIn(8)) {
                    n[d.below(6)] = oddInt(d);
                }
                due(run, "fighter(" + Arrays.toString(n) + ")",
                    x.fighter(n[0], n[1], n[2], n[3], n[4], n[5]), m.fighter(n));
                break;
            }
            case 2: {
                int f = who(d, m, 30);
                int what = mostly(d, 0, 5);
                due(run, "about(" + f + "," + what + ")", x.about(f, what), m.about(f, what));
                break;
            }
            case 3: case 4: {
                int f = who(d, m, 30);
                int what = mostly(d, 1, 5);
                int v = d.oneIn(5) ? oddInt(d) : numbers(d, gentle)[Math.floorMod(what, 6)];
                due(run, "tune(" + f + "," + what + "," + v + ")", x.tune(f, what, v),
                    m.tune(f, what, v));
                break;
            }
            case 5: case 6: case 7: case 8: {
                int s = mostly(d, 0, 1);
                int p = who(d, m, 12);
                int q = p == -1 && !d.oneIn(10) ? -1 : who(d, m, 3);
                int r = q == -1 && !d.oneIn(10) ? -1 : who(d, m, 2);
                due(run, "side(" + s + "," + p + "," + q + "," + r + ")", x.side(s, p, q, r),
                    m.side(s, p, q, r));
                break;
            }
            case 9: {
                int s = mostly(d, 0, 1);
                int p = mostly(d, 0, 2);
                due(run, "at(" + s + "," + p + ")", x.at(s, p), m.at(s, p));
                break;
            }
            case 10: case 11: {
                int r = mostly(d, 1, gentle ? 4 : 6);
                int aim = mostly(d, 0, 1);
                int s = mostly(d, -1, 1);
                due(run, "laws(" + r + "," + aim + "," + s + ")", x.laws(r, aim, s),
                    m.laws(r, aim, s));
                break;
            }
            case 12:
                due(run, "slots()", x.slots(), m.slots());
                break;
            case 13:
                due(run, "all()", x.all(), m.all());
                break;
            case 14: case 15: {
                int end = mostly(d, 0, 2);
                due(run, "ways(" + end + ")", x.ways(end), m.ways(end));
                break;
            }
            case 16: case 17:
                due(run, "chance()", x.chance(), m.chance());
                break;
            case 18: case 19: {
                int s = mostly(d, 0, 1);
                int p = mostly(d, 0, 2);
                int life = mostly(d, 0, d.oneIn(2) ? 3 : 20);
                int up = mostly(d, 0, 1);
                due(run, "left(" + s + "," + p + "," + life + "," + up + ")",
                    x.left(s, p, life, up), m.left(s, p, life, up));
                break;
            }
            case 20:
                due(run, "states()", x.states(), m.states());
                break;
            case 21: {
                int r = mostly(d, 0, m.rounds);
                due(run, "ends(" + r + ")", x.ends(r), m.ends(r));
                break;
            }
            case 22: case 23: {
                int f = who(d, m, 30);
                int what = mostly(d, 1, 5);
                due(run, "better(" + f + "," + what + ")", x.better(f, what), m.better(f, what));
                break;
            }
            case 24: {
                int p = mostly(d, 0, 2);
                due(run, "without(" + p + ")", x.without(p), m.without(p));
                break;
            }
            case 25: {
                int s = mostly(d, -1, 1);
                due(run, "surprised(" + s + ")", x.surprised(s), m.surprised(s));
                break;
            }
            case 26: case 27: {
                int p = who(d, m, 30);
                int q = p == -1 && !d.oneIn(10) ? -1 : who(d, m, 2);
                int r = q == -1 && !d.oneIn(10) ? -1 : who(d, m, 2);
                due(run, "fight(" + p + "," + q + "," + r + ")", x.fight(p, q, r),
                    m.fight(p, q, r));
                break;
            }
            case 28:
                if (d.oneIn(4)) {
                    due(run, "rest()", x.rest(), m.rest());
                }
                break;
            case 29: {
                int p = mostly(d, 0, 6);
                int b = mostly(d, 1, 9);
                due(run, "purse(" + p + "," + b + ")", x.purse(p, b), m.purse(p, b));
                break;
            }
            case 30:
                due(run, "day()", x.day(), m.day());
                break;
            case 31:
                due(run, "use()", x.use(), m.use());
                break;
            case 32: {
                int f = mostly(d, 0, Math.max(0, m.fights.size() - 1));
                int b = mostly(d, 0, 1);
                due(run, "odds(" + f + "," + b + ")", x.odds(f, b), m.odds(f, b));
                break;
            }
            case 33: {
                int least = d.oneIn(2) ? 0 : mostly(d, 0, 1000000);
                int most = d.oneIn(2) ? 1000000 : mostly(d, 0, 1000000);
                due(run, "wish(" + least + "," + most + ")", x.wish(least, most),
                    m.wish(least, most));
                break;
            }
            case 34: {
                int k = mostly(d, 0, Math.max(0, m.bands.size() - 1));
                due(run, "band(" + k + ")", x.band(k), m.band(k));
                break;
            }
            case 35: case 36:
                due(run, "play(" + a + ")", x.play(a), m.play(a));
                break;
            case 37: {
                int what = d.oneIn(2) ? mostly(d, 0, 2) : mostly(d, 10, 15);
                due(run, "played(" + what + ")", x.played(what), m.played(what));
                break;
            }
            default:
                callSheets(d, x, m, run, a);
        }
    }

    private static void callSheets(Dice d, FairFight x, Model m, List<String> run, int a) {
        int form = d.oneIn(4) || m.badSheet(a) ? mostly(d, 0, 2) : m.forms[a];
        int size = m.badSheet(a) || m.sheets[a] == null ? 3 : m.sheets[a].length;
        switch (d.below(9)) {
            case 0: {
                int n = d.oneIn(3) ? mostly(d, 0, 60) : mostly(d, 0, 12);
                due(run, "sheet(" + a + "," + form + "," + n + ")", x.sheet(a, form, n),
                    m.sheet(a, form, n));
                break;
            }
            case 1:
                if (d.oneIn(3)) {
                    due(run, "lose(" + a + ")", x.lose(a), m.lose(a));
                }
                break;
            case 2: case 3: {
                int i = mostly(d, 0, Math.max(0, size - 1));
                int v = d.oneIn(3) ? d.from(-200000, 200000) : d.oneIn(3) ? oddInt(d) : d.from(0, 7);
                due(run, "put(" + a + "," + form + "," + i + "," + v + ")", x.put(a, form, i, v),
                    m.put(a, form, i, v));
                break;
            }
            case 4: {
                int i = mostly(d, 0, Math.max(0, size - 1));
                due(run, "get(" + a + "," + form + "," + i + ")", x.get(a, form, i),
                    m.get(a, form, i));
                break;
            }
            case 5: {
                int t = d.oneIn(3) ? a : mostly(d, 0, 3);
                int i = mostly(d, 0, size);
                int j = mostly(d, 0, size);
                int n = mostly(d, 0, Math.max(0, Math.min(size - i, size - j)));
                due(run, "copy(" + a + "," + i + "," + t + "," + j + "," + n + ")",
                    x.copy(a, i, t, j, n), m.copy(a, i, t, j, n));
                break;
            }
            case 6: {
                int seed = d.oneIn(4) ? oddInt(d) : d.below(100000);
                due(run, "shake(" + a + "," + seed + ")", x.shake(a, seed), m.shake(a, seed));
                break;
            }
            case 7: {
                int what = mostly(d, 0, 9);
                due(run, "count(" + what + ")", x.count(what), m.count(what));
                break;
            }
            default:
                due(run, "digest()", x.digest(), m.digest());
        }
    }

    private static void randomRun(int seed) {
        Dice d = new Dice(seed);
        FairFight x = new FairFight();
        Model m = new Model();
        List<String> run = new ArrayList<>();
        boolean gentle = !d.oneIn(5);
        int begun = d.below(7);
        for (int i = 0; i < begun; i++) {
            int[] n = numbers(d, gentle);
            due(run, "fighter(" + Arrays.toString(n) + ")",
                x.fighter(n[0], n[1], n[2], n[3], n[4], n[5]), m.fighter(n));
        }
        // else most calls on sheets would be refused
        int form = d.below(3);
        for (int t = 0; t < 4 && seed % 4 != 0; t++) {
            int its = d.oneIn(4) ? d.below(3) : form;
            int n = d.from(5, 60);
            due(run, "sheet(" + t + "," + its + "," + n + ")", x.sheet(t, its, n),
                m.sheet(t, its, n));
            due(run, "shake(" + t + "," + seed + ")", x.shake(t, seed), m.shake(t, seed));
        }
        int calls = d.from(20, 200);
        for (int i = 0; i < calls; i++) {
            call(d, x, m, run, gentle);
        }
        due(run, "digest()", x.digest(), m.digest());
        due(run, "count(6)", x.count(6), m.count(6));
    }

    /** A fight of at most seven slots: every answer of its odds against every way played. */
    private static void smallFight(int seed) {
        Dice d = new Dice(seed);
        FairFight x = new FairFight();
        Model m = new Model();
        List<String> run = new ArrayList<>();
        for (int i = 0; i < 4; i++) {
            int[] n = numbers(d, true);
            n[1] = d.from(1, 4);
            run.add(Arrays.toString(n));
            x.fighter(n[0], n[1], n[2], n[3], n[4], n[5]);
            m.fighter(n);
        }
        int heroes = d.from(1, 3);
        int foes = d.from(1, 3);
        for (int s = 0; s < 2; s++) {
            int size = s == 0 ? heroes : foes;
            int a = d.below(4);
            int b = size > 1 ? d.below(4) : -1;
            int c = size > 2 ? d.below(4) : -1;
            run.add("side " + s + " " + a + " " + b + " " + c);
            x.side(s, a, b, c);
            m.side(s, a, b, c);
        }
        int rounds = d.from(1, Math.max(1, 7 / (heroes + foes)));
        int aim = d.below(2);
        int surprise = d.from(-1, 1);
        run.add("laws " + rounds + " " + aim + " " + surprise);
        x.laws(rounds, aim, surprise);
        m.laws(rounds, aim, surprise);
        Result r = every(m.field(m.sides.get(0), m.sides.get(1), 0), rounds, surprise);
        due(run, "all()", x.all(), r.all.longValueExact());
        due(run, "chance()", x.chance(), r.chance());
        for (int end = 0; end < 3; end++) {
            due(run, "ways(" + end + ")", x.ways(end), r.ends[end].longValueExact());
        }
        for (int round = 0; round <= rounds; round++) {
            due(run, "ends(" + round + ")", x.ends(round), r.rounds[round].longValueExact());
        }
        for (int s = 0; s < 2; s++) {
            for (int p = 0; p < m.sides.get(s).size(); p++) {
                for (int life = 0; life <= 20; life++) {
                    for (int up = 0; up < 2; up++) {
                        due(run, "left(" + s + "," + p + "," + life + "," + up + ")",
                            x.left(s, p, life, up),
                            r.left.getOrDefault(List.of(s, p, life, up), BigInteger.ZERO)
                                .longValueExact());
                    }
                }
            }
        }
    }

    /** A fight of 16 to 20 slots and many states, about as many as there may be. */
    private static void wideFight(int seed) {
        Dice d = new Dice(seed);
        FairFight x = new FairFight();
        Model m = new Model();
        List<String> run = new ArrayList<>();
        for (int i = 0; i < 5; i++) {
            int[] n = {d.oneIn(3) ? d.below(3) : 0, d.from(8, 20), d.from(1, 5), d.from(1, 5),
                d.oneIn(4) ? d.below(6) : 0, d.below(10)};
            run.add(Arrays.toString(n));
            x.fighter(n[0], n[1], n[2], n[3], n[4], n[5]);
            m.fighter(n);
        }
        int heroes = d.from(1, 2);
        int last = d.oneIn(2) ? 4 : -1;
        for (int s = 0; s < 2; s++) {
            int b = s == 0 && heroes == 1 ? -1 : 2 * s + 1;
            x.side(s, 2 * s, b, s == 0 ? -1 : last);
            m.side(s, 2 * s, b, s == 0 ? -1 : last);
        }
        run.add("heroes " + heroes + ", last foe " + last);
        int size = heroes + (last == -1 ? 2 : 3);
        int rounds = Math.min(6, 22 / size);
        int aim = d.below(2);
        x.laws(rounds, aim, -1);
        m.laws(rounds, aim, -1);
        run.add("laws " + rounds + " " + aim);
        due(run, "states()", x.states(), m.states());
        due(run, "chance()", x.chance(), m.chance());
        for (int end = 0; end < 3; end++) {
            due(run, "ways(" + end + ")", x.ways(end), m.ways(end));
        }
        for (int s = 0; s < 2; s++) {
            for (int life = 0; life <= 20; life++) {
                int up = life == 0 ? 0 : 1;
                due(run, "left(" + s + ",0," + life + "," + up + ")", x.left(s, 0, life, up),
                    m.left(s, 0, life, up));
            }
        }
    }

    public static void main(String[] args) {
        int runs = args.length > 0 ? Integer.parseInt(args[0]) : 400;
        int first = args.length > 1 ? Integer.parseInt(args[1]) : 1;
        for (int seed = first; seed < first + runs; seed++) {
            randomRun(seed);
        }
        for (int seed = first; seed < first + runs / 4; seed++) {
            smallFight(seed);
        }
        for (int seed = first; seed < first + runs / 4; seed++) {
            wideFight(seed);
        }
        if (args.length > 0) {
            System.out.println(new java.util.TreeMap<>(kinds));
        }
        System.out.println(wrong == 0 ? "all " + seen + " answers are as due"
            : wrong + " answers of " + seen + " are not as due");
        if (wrong != 0) {
            System.exit(1);
        }
    }
}
