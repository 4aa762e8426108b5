/**
 * A fair fight of heroes and foes by rolls of a die: the odds of each end as whole numbers of like
 * ways, what changes would do, a day of fights on one purse, bands of foes for a wish, and fights
 * played by told rolls.
 */
public final class FairFight {
    public static final int NONE = -1, BAD = -2, NOT = -3, FULL = -4, WIDE = -5;

    private static final int LEAST_INT = 0x80000000;
    private static final long LEAST_LONG = 0x8000000000000000L;

    private static final int HEROES = 0, FOES = 1;
    private static final int PLACES = 3, SEATS = 6;
    private static final int HEROES_WIN = 0, FOES_WIN = 1, DRAWN = 2;
    private static final int MOST_ROUNDS = 6, MOST_SLOTS = 22, MOST_STATES = 400;
    private static final int MILLION = 1000000;

    private static final int KIND = 0, LIFE = 1, HIT = 2, FORCE = 3, FLEE = 4, SPEED = 5;
    private static final int NUMBERS = 6;
    private static final int STRIKER = 0, AREA = 1;

    private static final int MOST_FIGHTS = 6, MOST_PURSE = 6, MOST_BONUS = 9;
    private static final int WISH_FIGHTERS = 6, MOST_BANDS = 27, ALONE = 256;

    private static final int SHEETS = 4, MOST_ITEMS = 60;
    private static final int BYTES = 0, SHORTS = 1, INTS = 2;
    private static final int NULL = 1, INDEX = 2, CAST = 3, STORE = 4, SIZE = 5;

    private final Roster roster = new Roster();
    private final Row[] sides = new Row[2];
    private final Fray fray = new Fray();
    private final Odds odds = new Odds();
    private final Day today = new Day();
    private final int[] bands = new int[MOST_BANDS];
    private final Bout bout = new Bout();
    private final Sheet[] sheets = new Sheet[SHEETS];
    private int rounds = 3;
    private int aim = 0;
    private int surprise = NONE;
    private int bandCount = 0;
    private int finding = 0;

    public FairFight() {
        for (int s = 0; s < sides.length; s++) {
            sides[s] = new Row();
        }
        for (int s = 0; s < sheets.length; s++) {
            sheets[s] = new Sheet();
        }
    }

    // ---- fighters

    public int fighter(int kind, int life, int hit, int force, int flee, int speed) {
        boolean told = Roster.fits(KIND, kind) && Roster.fits(LIFE, life) && Roster.fits(HIT, hit)
            && Roster.fits(FORCE, force) && Roster.fits(FLEE, flee) && Roster.fits(SPEED, speed);
        if (!told) {
            return BAD;
        }
        if (roster.size >= Roster.MOST) {
            return FULL;
        }
        int number = roster.size;
        roster.size++;
        roster.change(number, KIND, kind);
        roster.change(number, LIFE, life);
        roster.change(number, HIT, hit);
        roster.change(number, FORCE, force);
        roster.change(number, FLEE, flee);
        roster.change(number, SPEED, speed);
        return number;
    }

    public int about(int fighter, int what) {
        if (!roster.has(fighter) || what < KIND || what > SPEED) {
            return BAD;
        }
        return roster.number(fighter, what);
    }

    public int tune(int fighter, int what, int v) {
        if (!roster.has(fighter) || what == KIND || !Roster.fits(what, v)) {
            return BAD;
        }
        int was = roster.number(fighter, what);
        roster.change(fighter, what, v);
        return was;
    }

    public int side(int s, int a, int b, int c) {
        int size = rowSize(a, b, c);
        if (!isSide(s) || size == BAD) {
            return BAD;
        }
        sides[s].become(a, b, c, size);
        return size;
    }

    public int at(int s, int place) {
        if (!isSide(s) || !isPlace(place)) {
            return BAD;
        }
        return sides[s].who(place);
    }

    public int laws(int rounds, int aim, int surprised) {
        boolean told = rounds >= 1 && rounds <= MOST_ROUNDS && (aim == 0 || aim == 1)
            && isSideOrNone(surprised);
        if (!told) {
            return BAD;
        }
        this.rounds = rounds;
        this.aim = aim;
        this.surprise = surprised;
        return 1;
    }

    // ---- odds

    public int slots() {
        return rounds * (sides[HEROES].size + sides[FOES].size);
    }

    public long all() {
        return reckonFight() ? odds.total : refusal(WIDE);
    }

    public long ways(int end) {
        if (end < HEROES_WIN || end > DRAWN) {
            return refusal(BAD);
        }
        return reckonFight() ? odds.byEnd[end] : refusal(WIDE);
    }

    public int chance() {
        return reckonFight() ? odds.perMillion() : WIDE;
    }

    public long left(int s, int place, int life, int up) {
        boolean told = isSide(s) && isPlace(place) && life >= 0 && life <= Roster.MOST_LIFE
            && (up == 0 || up == 1);
        if (!told || sides[s].who(place) == NONE) {
            return refusal(BAD);
        }
        return reckonFight() ? odds.waysLeft(seatOf(s, place), life, up == 1) : refusal(WIDE);
    }

    public int states() {
        return reckonFight() ? odds.widest : WIDE;
    }

    public long ends(int r) {
        if (r < 0 || r > rounds) {
            return refusal(BAD);
        }
        return reckonFight() ? odds.byRound[r] : refusal(WIDE);
    }

    // ---- what if

    public int better(int fighter, int what) {
        if (!roster.has(fighter) || what <= KIND || what > SPEED) {
            return LEAST_INT;
        }
        int was = roster.number(fighter, what);
        if (!Roster.fits(what, was + 1)) {
            return LEAST_INT;
        }
        int before = chance();
        roster.change(fighter, what, was + 1);
        int after = chance();
        roster.change(fighter, what, was);
        return before == WIDE || after == WIDE ? LEAST_INT + 1 : after - before;
    }

    public int without(int place) {
        if (!isPlace(place) || sides[HEROES].who(place) == NONE) {
            return BAD;
        }
        fray.open(rounds, aim, surprise);
        seatHeroes(place, 0);
        seatFoes(sides[FOES]);
        return odds.reckon(fray) ? odds.perMillion() : WIDE;
    }

    public int surprised(int s) {
        if (!isSideOrNone(s)) {
            return BAD;
        }
        fray.open(rounds, aim, s);
        seatHeroes(NONE, 0);
        seatFoes(sides[FOES]);
        return odds.reckon(fray) ? odds.perMillion() : WIDE;
    }

    // ---- the day

    public int fight(int a, int b, int c) {
        int size = rowSize(a, b, c);
        if (size < 1) {
            return BAD;
        }
        if (today.size >= MOST_FIGHTS) {
            return FULL;
        }
        today.foes[today.size].become(a, b, c, size);
        today.size++;
        return today.size;
    }

    public int rest() {
        int was = today.size;
        today.size = 0;
        return was;
    }

    public int purse(int p, int bonus) {
        if (p < 0 || p > MOST_PURSE || bonus < 1 || bonus > MOST_BONUS) {
            return BAD;
        }
        today.purse = p;
        today.bonus = bonus;
        return 1;
    }

    public int day() {
        int refused = reckonDay();
        return refused < 0 ? refused : today.sumOf(today.bestUse());
    }

    public int use() {
        int refused = reckonDay();
        return refused < 0 ? refused : today.bestUse();
    }

    public int odds(int f, int bonus) {
        if (f < 0 || f >= today.size || bonus < 0 || bonus > 1) {
            return BAD;
        }
        if (sides[HEROES].size == 0) {
            return NOT;
        }
        return chanceAgainst(today.foes[f], bonus == 1 ? today.bonus : 0);
    }

    // ---- wishes

    public int wish(int least, int most) {
        if (least < 0 || most > MILLION || least > most) {
            return BAD;
        }
        if (sides[HEROES].size == 0) {
            return NOT;
        }
        bandCount = 0;
        int fighters = Math.min(roster.size, WISH_FIGHTERS);
        for (int a = 0; a < fighters; a++) {
            tryBand(a, NONE, least, most);
            for (int b = a; b < fighters; b++) {
                tryBand(a, b, least, most);
            }
        }
        return bandCount;
    }

    public int band(int k) {
        return k < 0 || k >= bandCount || k >= bands.length ? BAD : bands[k];
    }

    // ---- playing

    public int play(int s) {
        if (!isSheet(s)) {
            return BAD;
        }
        if (sheets[s].lost) {
            return found(NULL);
        }
        seatFight();
        return bout.run(fray, sheets[s]) ? bout.end : found(INDEX);
    }

    public int played(int what) {
        switch (what) {
            case 0:
                return bout.end;
            case 1:
                return bout.rolls;
            case 2:
                return bout.round;
            default:
                return what < 10 || what >= 10 + SEATS ? BAD : bout.lives[what - 10];
        }
    }

    // ---- sheets

    public int sheet(int s, int form, int n) {
        if (!isSheet(s) || !isForm(form) || n > MOST_ITEMS) {
            return BAD;
        }
        if (n < 0) {
            return found(SIZE);
        }
        sheets[s].renew(form, n);
        return n;
    }

    public int lose(int s) {
        if (!isSheet(s)) {
            return BAD;
        }
        if (sheets[s].lost) {
            return found(NULL);
        }
        sheets[s].lost = true;
        return sheets[s].size;
    }

    public int put(int s, int form, int i, int v) {
        if (!isSheet(s) || !isForm(form)) {
            return BAD;
        }
        int fault = itemFault(sheets[s], form, i);
        if (fault != 0) {
            return found(fault);
        }
        sheets[s].store(i, v);
        return 1;
    }

    public int get(int s, int form, int i) {
        if (!isSheet(s) || !isForm(form)) {
            return LEAST_INT;
        }
        int fault = itemFault(sheets[s], form, i);
        if (fault != 0) {
            finding = fault;
            return LEAST_INT;
        }
        return sheets[s].item(i);
    }

    public int copy(int s, int i, int t, int j, int n) {
        if (!isSheet(s) || !isSheet(t)) {
            return BAD;
        }
        Sheet from = sheets[s];
        Sheet to = sheets[t];
        if (from.lost || to.lost) {
            return found(NULL);
        }
        if (from.form != to.form) {
            return found(STORE);
        }
        if (!from.hasRun(i, n) || !to.hasRun(j, n)) {
            return found(INDEX);
        }
        System.arraycopy(from.items, i, to.items, j, n);
        return 1;
    }

    public int shake(int s, int seed) {
        if (!isSheet(s)) {
            return BAD;
        }
        Sheet sheet = sheets[s];
        if (sheet.lost) {
            return found(NULL);
        }
        int next = seed;
        for (int i = 0; i < sheet.size; i++) {
            next = 1103515245 * next + 12345;
            sheet.store(i, 1 + (next >>> 16) % 6);
        }
        return sheet.size;
    }

    public int count(int what) {
        switch (what) {
            case 0:
                return roster.size;
            case 1:
                return sides[HEROES].size;
            case 2:
                return sides[FOES].size;
            case 3:
                return rounds;
            case 4:
                return aim;
            case 5:
                return today.size;
            case 6:
                return finding;
            case 7:
                return surprise;
            case 8:
                return today.purse;
            case 9:
                return today.bonus;
            default:
                return BAD;
        }
    }

    public long digest() {
        long h = 17;
        for (int what = 0; what <= 9; what++) {
            // a finding changes nothing but count(6), so the digest leaves it out
            if (what != 6) {
                h = 31 * h + count(what);
            }
        }
        for (int f = 0; f < roster.size; f++) {
            for (int what = KIND; what <= SPEED; what++) {
                h = 31 * h + about(f, what);
            }
        }
        for (int s = HEROES; s <= FOES; s++) {
            for (int place = 0; place < PLACES; place++) {
                h = 31 * h + at(s, place);
            }
        }
        for (int what = 0; what <= 2; what++) {
            h = 31 * h + played(what);
        }
        return h;
    }

    // ---- what numbers are as told

    private static boolean isSide(int s) {
        return s == HEROES || s == FOES;
    }

    private static boolean isSideOrNone(int s) {
        return s == NONE || isSide(s);
    }

    private static boolean isPlace(int place) {
        return place >= 0 && place < PLACES;
    }

    private static boolean isSheet(int s) {
        return s >= 0 && s < SHEETS;
    }

    private static boolean isForm(int form) {
        return form >= BYTES && form <= INTS;
    }

    private static int seatOf(int s, int place) {
        return PLACES * s + place;
    }

    /** How many fighters a row of three has; BAD if it is not a row. */
    private int rowSize(int a, int b, int c) {
        if (!isFighterOrNone(a) || !isFighterOrNone(b) || !isFighterOrNone(c)) {
            return BAD;
        }
        if (a == NONE) {
            return b == NONE && c == NONE ? 0 : BAD;
        }
        if (b == NONE) {
            return c == NONE ? 1 : BAD;
        }
        return c == NONE ? 2 : 3;
    }

    private boolean isFighterOrNone(int fighter) {
        return fighter == NONE || roster.has(fighter);
    }

    private static long refusal(int why) {
        return LEAST_LONG - why;
    }

    private int found(int number) {
        finding = number;
        return -10 - number;
    }

    /** The finding that hinders the use of an item; 0 if none does. */
    private static int itemFault(Sheet sheet, int form, int i) {
        if (sheet.lost) {
            return NULL;
        }
        if (sheet.form != form) {
            return CAST;
        }
        return sheet.has(i) ? 0 : INDEX;
    }

    // ---- who fights whom

    private void seatFight() {
        fray.open(rounds, aim, surprise);
        seatHeroes(NONE, 0);
        seatFoes(sides[FOES]);
    }

    /** The heroes but the one at a place, those behind it one place less. */
    private void seatHeroes(int but, int bonus) {
        int seat = seatOf(HEROES, 0);
        for (int place = 0; place < sides[HEROES].size; place++) {
            if (place != but) {
                fray.seat(seat, roster, sides[HEROES].who(place), bonus);
                seat++;
            }
        }
    }

    private void seatFoes(Row foes) {
        for (int place = 0; place < foes.size; place++) {
            fray.seat(seatOf(FOES, place), roster, foes.who(place), 0);
        }
    }

    private boolean reckonFight() {
        seatFight();
        return odds.reckon(fray);
    }

    private int chanceAgainst(Row foes, int bonus) {
        fray.open(rounds, aim, surprise);
        seatHeroes(NONE, bonus);
        seatFoes(foes);
        return odds.reckon(fray) ? odds.perMillion() : WIDE;
    }

    /** Reckons all chances of the day; NOT or WIDE, or 0 if they stand. */
    private int reckonDay() {
        if (today.size == 0 || sides[HEROES].size == 0) {
            return NOT;
        }
        for (int f = 0; f < today.size; f++) {
            today.plain[f] = chanceAgainst(today.foes[f], 0);
            today.aided[f] = chanceAgainst(today.foes[f], today.bonus);
            if (today.plain[f] == WIDE || today.aided[f] == WIDE) {
                return WIDE;
            }
        }
        return 0;
    }

    /** Keeps a band of foes, b perhaps NONE, if its chance is from least to most. */
    private void tryBand(int a, int b, int least, int most) {
        fray.open(rounds, aim, surprise);
        seatHeroes(NONE, 0);
        fray.seat(seatOf(FOES, 0), roster, a, 0);
        if (b != NONE) {
            fray.seat(seatOf(FOES, 1), roster, b, 0);
        }
        int chance = odds.reckon(fray) ? odds.perMillion() : WIDE;
        // WIDE is below 0, so such a band is never within the wish
        if (chance >= least && chance <= most && bandCount < bands.length) {
            bands[bandCount] = b == NONE ? ALONE + 16 * a : 16 * a + b;
            bandCount++;
        }
    }

    /** The fighters, six numbers each. */
    private static final class Roster {
        static final int MOST = 16, MOST_LIFE = 20;
        private static final int[] LOWEST = {0, 1, 0, 1, 0, 0};
        private static final int[] HIGHEST = {2, 20, 6, 9, 19, 9};

        private final int[] numbers = new int[MOST * NUMBERS];
        int size = 0;

        static boolean fits(int what, int v) {
            return what >= KIND && what <= SPEED && v >= LOWEST[what] && v <= HIGHEST[what];
        }

        boolean has(int fighter) {
            return fighter >= 0 && fighter < size;
        }

        int number(int fighter, int what) {
            return has(fighter) ? numbers[NUMBERS * fighter + what] : 0;
        }

        void change(int fighter, int what, int v) {
            if (has(fighter)) {
                numbers[NUMBERS * fighter + what] = v;
            }
        }
    }

    /** Up to three fighters in a row. */
    private static final class Row {
        private final int[] fighters = {NONE, NONE, NONE};
        int size = 0;

        void become(int a, int b, int c, int count) {
            fighters[0] = a;
            fighters[1] = b;
            fighters[2] = c;
            size = count;
        }

        int who(int place) {
            return isPlace(place) ? fighters[place] : NONE;
        }
    }

    /**
     * One fight: who stands at which seat (0 to 2 heroes, 3 to 5 foes), its laws, and what a turn
     * makes of a state. A state is one long, so that like states are found by ==: six bits a seat,
     * the life in the lower five, the sixth set while that one is up.
     */
    private static final class Fray {
        private static final int SEAT_BITS = 6, SEAT_MASK = 63, LIFE_MASK = 31, UP = 32;
        private static final long HEROES_UP = 0x20820L, FOES_UP = 0x20820L << 18;

        private final int[] kind = new int[SEATS];
        private final int[] life = new int[SEATS];
        private final int[] hit = new int[SEATS];
        private final int[] force = new int[SEATS];
        private final int[] flee = new int[SEATS];
        private final int[] speed = new int[SEATS];
        /** The seats that are taken, in the order of their turns. */
        final int[] order = new int[SEATS];
        int size = 0;
        int rounds = 1;
        private int aim = 0;
        private int surprise = NONE;

        void open(int rounds, int aim, int surprise) {
            this.rounds = rounds;
            this.aim = aim;
            this.surprise = surprise;
            size = 0;
        }

        /** Seats are taken in rising order, so that of like speeds the lower seat stays ahead. */
        void seat(int seat, Roster roster, int fighter, int bonus) {
            if (seat < 0 || seat >= SEATS || size >= SEATS) {
                return;
            }
            kind[seat] = roster.number(fighter, KIND);
            life[seat] = roster.number(fighter, LIFE);
            hit[seat] = roster.number(fighter, HIT);
            force[seat] = roster.number(fighter, FORCE) + bonus;
            flee[seat] = roster.number(fighter, FLEE);
            speed[seat] = roster.number(fighter, SPEED);
            int turn = size;
            while (turn > 0 && speed[order[turn - 1]] < speed[seat]) {
                order[turn] = order[turn - 1];
                turn--;
            }
            order[turn] = seat;
            size++;
        }

        long beginning() {
            long state = 0;
            for (int i = 0; i < size; i++) {
                int seat = order[i];
                state |= (long) (life[seat] + UP) << SEAT_BITS * seat;
            }
            return state;
        }

        /** Who has won; NONE while on both sides somebody is up. */
        static int winner(long state) {
            if ((state & HEROES_UP) == 0) {
                return FOES_WIN;
            }
            return (state & FOES_UP) == 0 ? HEROES_WIN : NONE;
        }

        /** The six bits of a seat. */
        static int part(long state, int seat) {
            return (int) (state >>> SEAT_BITS * seat) & SEAT_MASK;
        }

        static int lifeOf(int part) {
            return part & LIFE_MASK;
        }

        boolean hasTurn(long state, int seat, int round) {
            boolean surprised = round == 1 && seat / PLACES == surprise;
            return part(state, seat) >= UP && !surprised;
        }

        boolean flees(long state, int seat) {
            return lifeOf(part(state, seat)) <= flee[seat];
        }

        long afterFlight(long state, int seat) {
            return state & ~((long) UP << SEAT_BITS * seat);
        }

        int hits(int seat) {
            return hit[seat];
        }

        long afterHit(long state, int seat) {
            int own = seat / PLACES;
            switch (kind[seat]) {
                case STRIKER:
                    return struck(state, chosen(state, FOES - own, aim == 1), force[seat]);
                case AREA:
                    return allStruck(state, FOES - own, force[seat]);
                default:
                    return healed(state, chosen(state, own, true), force[seat]);
            }
        }

        /** Of a side's that are up the first one, or the first of those with the least life. */
        private int chosen(long state, int side, boolean byLife) {
            int best = NONE;
            int least = 0;
            for (int seat = PLACES * side; seat < PLACES * side + PLACES; seat++) {
                int part = part(state, seat);
                if (part >= UP && (best == NONE || (byLife && part < least))) {
                    best = seat;
                    least = part;
                }
            }
            return best;
        }

        private long allStruck(long state, int side, int force) {
            long after = state;
            for (int seat = PLACES * side; seat < PLACES * side + PLACES; seat++) {
                if (part(state, seat) >= UP) {
                    after = struck(after, seat, force);
                }
            }
            return after;
        }

        private static long struck(long state, int seat, int force) {
            if (seat < 0) {
                return state;
            }
            int shift = SEAT_BITS * seat;
            boolean down = (int) (state >>> shift & LIFE_MASK) <= force;
            return down ? state & ~((long) SEAT_MASK << shift) : state - ((long) force << shift);
        }

        private long healed(long state, int seat, int force) {
            if (seat < 0 || seat >= SEATS) {
                return state;
            }
            int lost = life[seat] - lifeOf(part(state, seat));
            return state + ((long) Math.min(force, lost) << SEAT_BITS * seat);
        }
    }

    /** The states ahead of one slot, each with the ways that lead to it. */
    private static final class Layer {
        private static final int TABLE = 1024;

        final long[] states = new long[MOST_STATES];
        final long[] ways = new long[MOST_STATES];
        int size = 0;
        /** Where each state stands in the table, so that emptying it needs no full sweep. */
        private final int[] spots = new int[MOST_STATES];
        /** By a state's spot: its number and 1; 0 where the spot is free. */
        private final int[] table = new int[TABLE];

        void empty() {
            for (int i = 0; i < size; i++) {
                table[spots[i]] = 0;
            }
            size = 0;
        }

        /** Whether there was room: a state more than the most is not taken. */
        boolean join(long state, long more) {
            int spot = (int) (state * 0x9E3779B97F4A7C15L >>> 54);
            for (int tries = 0; tries < TABLE; tries++) {
                int known = table[spot] - 1;
                if (known >= 0 && states[known] == state) {
                    ways[known] += more;
                    return true;
                }
                if (known < 0) {
                    return joinNew(spot, state, more);
                }
                spot = (spot + 1) % TABLE;
            }
            return false;
        }

        private boolean joinNew(int spot, long state, long more) {
            if (size >= MOST_STATES) {
                return false;
            }
            states[size] = state;
            ways[size] = more;
            spots[size] = spot;
            size++;
            table[spot] = size;
            return true;
        }
    }

    /** The ways of each end of a fray, reckoned slot by slot over all its states. */
    private static final class Odds {
        /** A seat's life and whether it is up, as six bits. */
        private static final int PARTS = 64;

        long total = 1;
        int widest = 0;
        final long[] byEnd = new long[3];
        final long[] byRound = new long[MOST_ROUNDS + 1];
        private final long[] byPart = new long[SEATS * PARTS];
        private Layer now = new Layer();
        private Layer next = new Layer();
        /** The ways of all slots behind the one that is reckoned. */
        private long behind = 1;

        /** Whether the fray is not too wide: only then its numbers stand. */
        boolean reckon(Fray fray) {
            int slots = fray.rounds * fray.size;
            if (slots > MOST_SLOTS) {
                return false;
            }
            clear();
            total = powerOfSix(slots);
            behind = total;
            long state = fray.beginning();
            int winner = Fray.winner(state);
            if (winner != NONE) {
                behind = 1;
                tally(fray, state, total, winner, 0);
                return true;
            }
            now.join(state, 1);
            for (int round = 1; round <= fray.rounds; round++) {
                for (int i = 0; i < fray.size; i++) {
                    widest = Math.max(widest, now.size);
                    behind /= 6;
                    boolean last = round == fray.rounds && i == fray.size - 1;
                    if (!reckonSlot(fray, fray.order[i], round, last)) {
                        return false;
                    }
                }
            }
            return true;
        }

        long waysLeft(int seat, int life, boolean up) {
            int i = PARTS * seat + life + (up ? Fray.UP : 0);
            return i >= 0 && i < byPart.length ? byPart[i] : 0;
        }

        /** The chance, digit by digit: a million times the ways is more than a long holds. */
        int perMillion() {
            if (total < 1) {
                return 0;
            }
            long rest = byEnd[HEROES_WIN];
            long chance = rest / total;
            for (int digit = 0; digit < 6; digit++) {
                rest = rest % total * 10;
                chance = 10 * chance + rest / total;
            }
            return (int) chance;
        }

        private void clear() {
            now.empty();
            next.empty();
            widest = 0;
            for (int i = 0; i < byEnd.length; i++) {
                byEnd[i] = 0;
            }
            for (int i = 0; i < byRound.length; i++) {
                byRound[i] = 0;
            }
            for (int i = 0; i < byPart.length; i++) {
                byPart[i] = 0;
            }
        }

        private static long powerOfSix(int slots) {
            long power = 1;
            for (int i = 0; i < slots; i++) {
                power *= 6;
            }
            return power;
        }

        private boolean reckonSlot(Fray fray, int seat, int round, boolean last) {
            next.empty();
            boolean room = true;
            for (int i = 0; i < now.size && room; i++) {
                long state = now.states[i];
                long ways = now.ways[i];
                if (!fray.hasTurn(state, seat, round)) {
                    room = pass(fray, state, 6 * ways, round, last);
                } else if (fray.flees(state, seat)) {
                    room = pass(fray, fray.afterFlight(state, seat), 6 * ways, round, last);
                } else {
                    int hits = fray.hits(seat);
                    room = pass(fray, state, (6 - hits) * ways, round, last)
                        && pass(fray, fray.afterHit(state, seat), hits * ways, round, last);
                }
            }
            Layer spent = now;
            now = next;
            next = spent;
            return room;
        }

        /** A state behind a slot: it ends, or it is one of those ahead of the next slot. */
        private boolean pass(Fray fray, long state, long ways, int round, boolean last) {
            // what no roll brings about is no state
            if (ways == 0) {
                return true;
            }
            int winner = Fray.winner(state);
            if (winner != NONE) {
                tally(fray, state, ways, winner, round);
                return true;
            }
            if (last) {
                tally(fray, state, ways, DRAWN, round);
                return true;
            }
            return next.join(state, ways);
        }

        private void tally(Fray fray, long state, long ways, int end, int round) {
            long all = ways * behind;
            byEnd[end] += all;
            if (end != DRAWN) {
                byRound[round] += all;
            }
            for (int i = 0; i < fray.size; i++) {
                int seat = fray.order[i];
                byPart[PARTS * seat + Fray.part(state, seat)] += all;
            }
        }
    }

    /** The fights of the day, the purse, and the chances with and without its bonus. */
    private static final class Day {
        final Row[] foes = new Row[MOST_FIGHTS];
        final int[] plain = new int[MOST_FIGHTS];
        final int[] aided = new int[MOST_FIGHTS];
        int size = 0;
        int purse = 1;
        int bonus = 1;

        Day() {
            for (int f = 0; f < foes.length; f++) {
                foes[f] = new Row();
            }
        }

        int sumOf(int use) {
            int sum = 0;
            for (int f = 0; f < size; f++) {
                sum += (use >> f & 1) == 1 ? aided[f] : plain[f];
            }
            return sum;
        }

        /** Sets are tried in rising order, so of like ones the least as bits stays. */
        int bestUse() {
            int best = 0;
            int most = sumOf(0);
            for (int use = 1; use < 1 << size; use++) {
                int sum = sumOf(use);
                boolean fewer = Integer.bitCount(use) < Integer.bitCount(best);
                if (Integer.bitCount(use) <= purse && (sum > most || (sum == most && fewer))) {
                    best = use;
                    most = sum;
                }
            }
            return best;
        }
    }

    /** The latest fight that was played to an end. */
    private static final class Bout {
        int end = 0;
        int rolls = 0;
        int round = 0;
        /** The lives in the end, by seat; BAD where nobody was. */
        final int[] lives = {BAD, BAD, BAD, BAD, BAD, BAD};

        /** Whether the sheet had rolls enough: else nothing is changed. */
        boolean run(Fray fray, Sheet sheet) {
            long state = fray.beginning();
            int winner = Fray.winner(state);
            int reached = 0;
            int used = 0;
            while (winner == NONE && reached < fray.rounds) {
                reached++;
                for (int i = 0; i < fray.size && winner == NONE; i++) {
                    int seat = fray.order[i];
                    if (!fray.hasTurn(state, seat, reached)) {
                        continue;
                    }
                    if (fray.flees(state, seat)) {
                        state = fray.afterFlight(state, seat);
                    } else if (!sheet.has(used)) {
                        return false;
                    } else {
                        int roll = sheet.item(used);
                        used++;
                        boolean hit = roll >= 1 && roll <= fray.hits(seat);
                        state = hit ? fray.afterHit(state, seat) : state;
                    }
                    winner = Fray.winner(state);
                }
            }
            end = winner == NONE ? DRAWN : winner;
            rolls = used;
            round = reached;
            keepLives(fray, state);
            return true;
        }

        private void keepLives(Fray fray, long state) {
            for (int seat = 0; seat < lives.length; seat++) {
                lives[seat] = BAD;
            }
            for (int i = 0; i < fray.size; i++) {
                int seat = fray.order[i];
                lives[seat] = Fray.lifeOf(Fray.part(state, seat));
            }
        }
    }

    /** A row of items of a form, or lost. */
    private static final class Sheet {
        final int[] items = new int[MOST_ITEMS];
        int form = BYTES;
        int size = 0;
        boolean lost = true;

        void renew(int newForm, int count) {
            form = newForm;
            size = count;
            lost = false;
            for (int i = 0; i < items.length; i++) {
                items[i] = 0;
            }
        }

        boolean has(int i) {
            return i >= 0 && i < size && i < items.length;
        }

        /** Whether n items stand there from i on; told by differences, as sums may wrap. */
        boolean hasRun(int i, int n) {
            return i >= 0 && n >= 0 && i <= size && n <= size - i;
        }

        int item(int i) {
            return has(i) ? items[i] : 0;
        }

        void store(int i, int v) {
            if (has(i)) {
                items[i] = form == BYTES ? (byte) v : form == SHORTS ? (short) v : v;
            }
        }
    }
}
