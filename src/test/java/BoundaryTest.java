import java.math.BigInteger;

/**
 * One test for each sentence of the document that names a boundary case, in its order: too small,
 * too large, empty, full, a wrap-around. (Refused calls have RefusalTest.) Fights are made of those
 * who always hit or never do wherever that is enough, so that each answer is plain from the words.
 */
public final class BoundaryTest {
    private static final int NONE = -1, BAD = -2, NOT = -3, FULL = -4, WIDE = -5;
    private static final int NULL = -11, INDEX = -12, CAST = -13, STORE = -14, SIZE = -15;
    private static final int LEAST = Integer.MIN_VALUE, MOST = Integer.MAX_VALUE;
    private static final int LEAST_WIDE = Integer.MIN_VALUE + 1;
    private static final long LONG_BAD = Long.MIN_VALUE + 2, LONG_WIDE = Long.MIN_VALUE + 5;
    private static final int STRIKER = 0, AREA = 1, HEALER = 2;
    private static final int HEROES_WIN = 0, FOES_WIN = 1, DRAWN = 2;
    private static final int MILLION = 1000000;
    private static final int[] LOW = {0, 1, 0, 1, 0, 0};
    private static final int[] HIGH = {2, 20, 6, 9, 19, 9};
    private static final int[] SHAKEN = {0, 1, -1, 77, 12345, LEAST, MOST};

    /** Of life 1, last in turn, and never hits. */
    private static final int[] IDLE = {STRIKER, 1, 0, 1, 0, 0};
    /** The like, of life 20. */
    private static final int[] TOUGH = {STRIKER, 20, 0, 1, 0, 0};
    /** First in turn, always hits, and strikes 9. */
    private static final int[] SURE = {STRIKER, 1, 6, 9, 0, 9};
    /** The like, slower, and one that strikes all. */
    private static final int[] SURE_BUT_SLOW = {STRIKER, 1, 6, 9, 0, 1};
    private static final int[] SURE_AREA = {AREA, 1, 6, 9, 0, 9};
    /** Hits by half, and strikes 1. */
    private static final int[] HALF = {STRIKER, 1, 3, 1, 0, 9};

    private static String sentence = "";
    private static int sentences = 0;
    private static int seen = 0;
    private static int seenBefore = 0;
    private static int wrong = 0;

    /** From here on, calls are those that a sentence of the document asks for. */
    private static void says(String words) {
        endOfSentence();
        sentence = words;
        sentences++;
    }

    private static void endOfSentence() {
        if (sentences > 0 && seen == seenBefore) {
            wrong++;
            System.out.println(sentence + ": has no test");
        }
        seenBefore = seen;
    }

    private static void due(String call, long got, long want) {
        seen++;
        if (got != want) {
            wrong++;
            System.out.println(sentence + ": " + call + " answered " + got + ", due is " + want);
        }
    }

    private static int[] of(int... numbers) {
        return numbers;
    }

    private static int[][] row(int[]... fighters) {
        return fighters;
    }

    /** One who never hits. */
    private static int[] idle(int life) {
        return of(STRIKER, life, 0, 1, 0, 0);
    }

    private static int add(FairFight x, int[] n) {
        return x.fighter(n[0], n[1], n[2], n[3], n[4], n[5]);
    }

    private static void stand(FairFight x, int s, int first, int size) {
        x.side(s, size > 0 ? first : NONE, size > 1 ? first + 1 : NONE,
            size > 2 ? first + 2 : NONE);
    }

    /** Heroes (FIGHTERS 0 ..) against foes (those behind them), AIM 0, nobody surprised. */
    private static FairFight field(int rounds, int[][] heroes, int[][] foes) {
        FairFight x = new FairFight();
        for (int[] n : heroes) {
            add(x, n);
        }
        for (int[] n : foes) {
            add(x, n);
        }
        stand(x, 0, 0, heroes.length);
        stand(x, 1, heroes.length, foes.length);
        x.laws(rounds, 0, NONE);
        return x;
    }

    private static FairFight duel(int rounds, int[] hero, int[] foe) {
        return field(rounds, row(hero), row(foe));
    }

    /** FIGHTERS 0 .. 15, all idle. */
    private static FairFight crowd() {
        FairFight x = new FairFight();
        for (int f = 0; f < 16; f++) {
            add(x, IDLE);
        }
        return x;
    }

    /** What play() answers with these items on sheet 3. */
    private static int play(FairFight x, int... items) {
        x.sheet(3, 2, items.length);
        for (int i = 0; i < items.length; i++) {
            x.put(3, 2, i, items[i]);
        }
        return x.play(3);
    }

    private static void newObject() {
        FairFight other = crowd();
        other.side(0, 0, 1, 2);
        other.fight(3, NONE, NONE);
        other.sheet(0, 0, 9);
        FairFight x = new FairFight();
        says("1: No FIGHTERS");
        due("count(0)", x.count(0), 0);
        due("about(0, 1)", x.about(0, 1), BAD);
        due("tune(0, 1, 1)", x.tune(0, 1, 1), BAD);
        due("side(0, 0, -1, -1)", x.side(0, 0, NONE, NONE), BAD);
        due("fight(0, -1, -1)", x.fight(0, NONE, NONE), BAD);
        due("better(0, 1)", x.better(0, 1), LEAST);
        says("1: nobody on a SIDE");
        for (int seat = 0; seat < 6; seat++) {
            due("at", x.at(seat / 3, seat % 3), NONE);
            due("left", x.left(seat / 3, seat % 3, 1, 1), LONG_BAD);
        }
        due("count(1)", x.count(1), 0);
        due("count(2)", x.count(2), 0);
        due("slots()", x.slots(), 0);
        due("without(0)", x.without(0), BAD);
        due("wish(0, 1000000)", x.wish(0, MILLION), NOT);
        says("1: no FIGHTS of the DAY");
        due("count(5)", x.count(5), 0);
        due("odds(0, 0)", x.odds(0, 0), BAD);
        due("day()", x.day(), NOT);
        due("use()", x.use(), NOT);
        due("rest()", x.rest(), 0);
        newSheets(x);
        says("terms: numbers at first");
        int[] counts = {0, 0, 0, 3, 0, 0, 5, NONE, 1, 1};
        for (int what = 0; what < counts.length; what++) {
            due("count(" + what + ")", x.count(what), counts[what]);
        }
    }

    private static void newSheets(FairFight x) {
        says("34: 0 before any");
        due("count(6)", x.count(6), 0);
        says("1: all SHEETS are LOST");
        for (int s = 0; s < 4; s++) {
            // another finding each time, so that NULL is seen to come back
            x.sheet(0, 0, -1);
            due("get", x.get(s, 0, 0), LEAST);
            due("count(6)", x.count(6), 1);
            due("put", x.put(s, 0, 0, 1), NULL);
            due("copy from it", x.copy(s, 0, s, 0, 0), NULL);
            due("shake", x.shake(s, 1), NULL);
            due("play", x.play(s), NULL);
            due("lose", x.lose(s), NULL);
        }
        x.sheet(0, 0, -1);
    }

    private static void fighters() {
        says("terms: FIGHTERS 0 .. 15 (16 at most)");
        FairFight x = new FairFight();
        for (int f = 0; f < 16; f++) {
            due("fighter", add(x, IDLE), f);
        }
        due("a 17th", add(x, IDLE), FULL);
        due("an 18th", add(x, IDLE), FULL);
        due("count(0)", x.count(0), 16);
        due("about(15, 1)", x.about(15, 1), 1);
        due("about(16, 1)", x.about(16, 1), BAD);
        due("about(-1, 1)", x.about(-1, 1), BAD);
        due("side with 15", x.side(0, 15, 15, 15), 3);
        due("side with 16", x.side(0, 15, 15, 16), BAD);
        due("fight with 16", x.fight(16, NONE, NONE), BAD);
        due("tune(15, 1, 20)", x.tune(15, 1, 20), 1);
        due("tune(16, 1, 20)", x.tune(16, 1, 20), BAD);
        due("better(16, 1)", x.better(16, 1), LEAST);
        says("2: BAD; FULL");
        FairFight y = new FairFight();
        due("a bad one takes no number", y.fighter(0, 0, 0, 1, 0, 0), BAD);
        due("so the first is still 0", add(y, IDLE), 0);
        due("bad ahead of full", x.fighter(0, 21, 0, 1, 0, 0), BAD);
        numbersOfFighters();
        aboutAndTune();
    }

    private static void numbersOfFighters() {
        says("terms: KIND (0, 1, 2), LIFE (1 to 20), HIT (0 to 6), FORCE (1 to 9), FLEE (0 to 19), "
            + "SPEED (0 to 9)");
        FairFight x = new FairFight();
        for (int what = 0; what < 6; what++) {
            int[] beyond = {LOW[what] - 1, HIGH[what] + 1, LEAST, MOST};
            for (int v : beyond) {
                int[] n = {1, 5, 3, 3, 3, 3};
                n[what] = v;
                due("number " + what + " is " + v, add(x, n), BAD);
            }
        }
        due("nobody came", x.count(0), 0);
        for (int what = 0; what < 6; what++) {
            for (int v = LOW[what]; v <= HIGH[what]; v++) {
                FairFight y = new FairFight();
                int[] n = {1, 5, 3, 3, 3, 3};
                n[what] = v;
                due("number " + what + " is " + v, add(y, n), 0);
                due("about", y.about(0, what), v);
            }
        }
    }

    private static void aboutAndTune() {
        FairFight x = new FairFight();
        add(x, of(2, 20, 6, 9, 19, 9));
        add(x, of(1, 2, 3, 4, 5, 6));
        says("3: Of a FIGHTER: 0 KIND, 1 LIFE, 2 HIT, 3 FORCE, 4 FLEE, 5 SPEED. BAD");
        for (int what = 0; what < 6; what++) {
            due("about(0, " + what + ")", x.about(0, what), HIGH[what]);
            due("about(1, " + what + ")", x.about(1, what), what + 1);
        }
        for (int what : of(-1, 6, LEAST, MOST)) {
            due("about(0, " + what + ")", x.about(0, what), BAD);
        }
        for (int f : of(-1, 2, LEAST, MOST)) {
            due("about(" + f + ", 1)", x.about(f, 1), BAD);
        }
        says("4: One of these (1 to 5) becomes v: what it was");
        for (int what = 1; what < 6; what++) {
            due("to the least", x.tune(0, what, LOW[what]), HIGH[what]);
            due("to what it is", x.tune(0, what, LOW[what]), LOW[what]);
            due("to the greatest", x.tune(0, what, HIGH[what]), LOW[what]);
            for (int v : of(LOW[what] - 1, HIGH[what] + 1, LEAST, MOST)) {
                due("tune(0, " + what + ", " + v + ")", x.tune(0, what, v), BAD);
            }
            due("it stays", x.about(0, what), HIGH[what]);
            due("the other one stays", x.about(1, what), what + 1);
        }
        for (int what : of(0, -1, 6, LEAST, MOST)) {
            due("tune(0, " + what + ", 1)", x.tune(0, what, 1), BAD);
        }
        for (int f : of(-1, 2, LEAST, MOST)) {
            due("tune(" + f + ", 1, 1)", x.tune(f, 1, 1), BAD);
        }
    }

    private static void sides() {
        FairFight x = crowd();
        says("terms: SIDES are 0 HEROES, 1 FOES");
        for (int s : of(-1, 2, LEAST, MOST)) {
            due("side(" + s + ")", x.side(s, 0, NONE, NONE), BAD);
            due("at(" + s + ", 0)", x.at(s, 0), BAD);
        }
        due("side(0)", x.side(0, 1, NONE, NONE), 1);
        due("side(1)", x.side(1, 2, NONE, NONE), 1);
        due("at(0, 0)", x.at(0, 0), 1);
        due("at(1, 0)", x.at(1, 0), 2);
        says("terms: a row of 0 to 3 FIGHTERS (any one as often as told)");
        due("side of 0", x.side(0, NONE, NONE, NONE), 0);
        due("side of 1", x.side(0, 7, NONE, NONE), 1);
        due("side of 2", x.side(0, 7, 7, NONE), 2);
        due("side of 3", x.side(0, 7, 7, 7), 3);
        due("on both", x.side(1, 7, 7, 7), 3);
        due("count(1)", x.count(1), 3);
        says("5: behind a NONE only NONE");
        due("none, one", x.side(0, NONE, 1, NONE), BAD);
        due("none, none, one", x.side(0, NONE, NONE, 1), BAD);
        due("none, one, one", x.side(0, NONE, 1, 1), BAD);
        due("one, none, one", x.side(0, 1, NONE, 1), BAD);
        says("5: a row of FIGHTERS");
        for (int f : of(-2, 16, LEAST, MOST)) {
            due("first " + f, x.side(0, f, NONE, NONE), BAD);
            due("second " + f, x.side(0, 1, f, NONE), BAD);
            due("third " + f, x.side(0, 1, 1, f), BAD);
        }
        due("the row stays", x.at(0, 2), 7);
        says("terms: its PLACES 0 .. 2 (none at first)");
        FairFight y = crowd();
        for (int place = 0; place < 3; place++) {
            due("at first", y.at(0, place), NONE);
            due("at first", y.at(1, place), NONE);
        }
        y.side(0, 3, 4, 5);
        for (int place = 0; place < 3; place++) {
            due("at(0, " + place + ")", y.at(0, place), 3 + place);
        }
        for (int place : of(-1, 3, LEAST, MOST)) {
            due("at(0, " + place + ")", y.at(0, place), BAD);
        }
        says("6: Who is at a PLACE of a SIDE; NONE");
        y.side(0, 6, NONE, NONE);
        due("at a shorter row", y.at(0, 0), 6);
        due("behind a shorter row", y.at(0, 1), NONE);
        due("behind a shorter row", y.at(0, 2), NONE);
    }

    private static void laws() {
        FairFight x = new FairFight();
        says("terms: ROUNDS (told, 1 to 6; 3 at first)");
        due("at first", x.count(3), 3);
        for (int r = 1; r <= 6; r++) {
            due("laws(" + r + ")", x.laws(r, 0, NONE), 1);
            due("count(3)", x.count(3), r);
        }
        for (int r : of(0, 7, -1, LEAST, MOST)) {
            due("laws(" + r + ")", x.laws(r, 0, NONE), BAD);
        }
        says("terms: AIM (told for all; 0, at first; 1)");
        due("at first", new FairFight().count(4), 0);
        due("laws(6, 1, -1)", x.laws(6, 1, NONE), 1);
        due("count(4)", x.count(4), 1);
        for (int aim : of(-1, 2, LEAST, MOST)) {
            due("aim " + aim, x.laws(1, aim, NONE), BAD);
        }
        says("terms: SURPRISED (told: -1 none, at first, 0, 1)");
        due("at first", new FairFight().count(7), NONE);
        for (int s = 1; s >= -1; s--) {
            due("surprised " + s, x.laws(6, 1, s), 1);
            due("count(7)", x.count(7), s);
        }
        for (int s : of(-2, 2, LEAST, MOST)) {
            due("surprised " + s, x.laws(1, 0, s), BAD);
        }
        says("7: BAD");
        due("nothing is taken of bad laws: rounds", x.count(3), 6);
        due("nothing is taken of bad laws: aim", x.count(4), 1);
        due("nothing is taken of bad laws: surprised", x.count(7), NONE);
    }

    private static void turns() {
        says("terms: all begin with their LIFE, UP");
        FairFight x = field(1, row(TOUGH, IDLE, TOUGH), row(IDLE, TOUGH));
        due("life 20", x.left(0, 0, 20, 1), x.all());
        due("life 1", x.left(0, 1, 1, 1), x.all());
        due("life 20", x.left(1, 1, 20, 1), x.all());
        says("terms: by SPEED, the greatest first");
        FairFight y = duel(1, of(0, 1, 6, 1, 0, 8), of(0, 1, 6, 1, 0, 9));
        due("9 ahead of 8", y.chance(), 0);
        y.tune(1, 5, 7);
        due("8 ahead of 7", y.chance(), MILLION);
        y.tune(0, 5, 0);
        y.tune(1, 5, 1);
        due("1 ahead of 0", y.chance(), 0);
        says("terms: of like ones HEROES ahead");
        y.tune(1, 5, 0);
        due("0 and 0", y.chance(), MILLION);
        y.tune(0, 5, 9);
        y.tune(1, 5, 9);
        due("9 and 9", y.chance(), MILLION);
        says("terms: then the lesser PLACE");
        for (int sure = 0; sure < 3; sure++) {
            int[][] heroes = {TOUGH, TOUGH, TOUGH};
            heroes[sure] = of(STRIKER, 20, 6, 9, 0, 0);
            FairFight z = field(1, heroes, row(IDLE));
            due("a hit by the turn of place " + sure, play(z, 1, 1, 1, 1), HEROES_WIN);
            due("rolls", z.played(1), sure + 1);
            FairFight w = field(1, row(IDLE), heroes);
            due("of the foes too", play(w, 1, 1, 1, 1), FOES_WIN);
            due("rolls", w.played(1), sure + 2);
        }
        noTurns();
    }

    private static void noTurns() {
        says("terms: One who is not UP has no turn");
        FairFight x = field(1, row(of(0, 1, 6, 1, 0, 9)), row(SURE_BUT_SLOW, TOUGH));
        due("a striker that is down", x.left(0, 0, 1, 1), x.all());
        due("drawn", play(x, 1, 1, 1), DRAWN);
        due("it rolls not", x.played(1), 2);
        FairFight y = field(2, row(TOUGH, of(STRIKER, 3, 6, 9, 3, 9)), row(IDLE));
        due("nor one that fled", y.ways(DRAWN), y.all());
        play(y, 1, 1, 1, 1);
        due("it rolls not", y.played(1), 4);
        says("terms: whose SIDE is SURPRISED (in the first ROUND alone) has no turn");
        FairFight z = field(1, row(SURE), row(IDLE));
        z.laws(1, 0, 0);
        due("heroes in one round", z.ways(DRAWN), z.all());
        z.laws(2, 0, 0);
        due("not in round 1", z.ends(1), 0);
        due("in round 2", z.ends(2), z.all());
        due("no roll in round 1 but the foe's", play(z, 1, 1), HEROES_WIN);
        due("rolls", z.played(1), 2);
        z.laws(2, 0, 1);
        due("the other side is", z.ends(1), z.all());
        z.laws(2, 0, NONE);
        due("nobody is", z.ends(1), z.all());
        FairFight w = field(1, row(IDLE, IDLE, IDLE), row(SURE_AREA, SURE_AREA, SURE_AREA));
        w.laws(1, 0, 1);
        due("all of a side", w.ways(DRAWN), w.all());
        FairFight v = duel(2, IDLE, of(STRIKER, 5, 6, 1, 19, 9));
        v.laws(2, 0, 1);
        due("nor does it flee in round 1", v.ends(1), 0);
        due("but in round 2", v.ends(2), v.all());
    }

    private static void flight() {
        says("terms: one whose LIFE is FLEE or less flees");
        for (int life = 1; life <= 20; life++) {
            for (int flee : of(0, life - 1, life, 19)) {
                if (flee > 19) {
                    continue;
                }
                FairFight x = duel(1, IDLE, of(STRIKER, life, 0, 1, flee, 9));
                due("life " + life + ", flee " + flee, x.ways(HEROES_WIN),
                    life <= flee ? x.all() : 0);
            }
        }
        FairFight y = duel(1, of(STRIKER, 1, 6, 1, 0, 9), of(STRIKER, 20, 6, 9, 19, 0));
        due("struck to it ahead of its turn", y.ways(HEROES_WIN), y.all());
        y.tune(0, 5, 0);
        y.tune(1, 5, 1);
        due("struck behind its turn", y.ways(FOES_WIN), y.all());
        says("terms: is UP no more, LIFE stays");
        FairFight z = field(1, row(TOUGH, of(STRIKER, 7, 6, 9, 7, 9)), row(TOUGH));
        due("left", z.left(0, 1, 7, 0), z.all());
        due("left up", z.left(0, 1, 7, 1), 0);
        due("left of 0", z.left(0, 1, 0, 0), 0);
        play(z, 6, 6);
        due("played", z.played(11), 7);
        says("terms: it does not roll");
        FairFight w = duel(1, of(STRIKER, 7, 6, 9, 7, 9), IDLE);
        due("nothing to roll", play(w), FOES_WIN);
        due("rolls", w.played(1), 0);
        due("round", w.played(2), 1);
        due("it strikes nobody", w.played(13), 1);
    }

    private static void hits() {
        says("terms: Else it rolls 1 to 6; at most HIT is a hit");
        for (int hit = 0; hit <= 6; hit++) {
            FairFight x = duel(1, of(STRIKER, 1, hit, 1, 0, 9), IDLE);
            due("of 36 with HIT " + hit, x.ways(HEROES_WIN), 6 * hit);
            for (int item = 0; item <= 7; item++) {
                due("item " + item + " with HIT " + hit, play(x, item, 0),
                    item >= 1 && item <= hit ? HEROES_WIN : DRAWN);
            }
        }
        says("terms: loses FORCE");
        for (int force = 1; force <= 9; force++) {
            FairFight x = duel(1, of(STRIKER, 1, 6, force, 0, 9), TOUGH);
            due("FORCE " + force, x.left(1, 0, 20 - force, 1), x.all());
        }
        says("terms: One whose LIFE would be 0 or below has LIFE 0 and is UP no more");
        for (int life = 1; life <= 20; life++) {
            FairFight x = duel(1, of(STRIKER, 1, 6, 9, 0, 9), of(STRIKER, life, 0, 1, 0, 0));
            due("of life " + life, x.left(1, 0, Math.max(0, life - 9), life > 9 ? 1 : 0), x.all());
            play(x, 1, 1);
            due("played(13) of life " + life, x.played(13), Math.max(0, life - 9));
        }
        aims();
        areas();
        healers();
    }

    private static void aims() {
        says("terms: 0, at first: the least PLACE");
        int[] striker = {STRIKER, 20, 6, 1, 0, 5};
        FairFight x = field(1, row(striker), row(TOUGH, IDLE, IDLE));
        due("place 0, not the least life", x.left(1, 0, 19, 1), x.all());
        FairFight y = field(1, row(striker), row(of(0, 3, 0, 1, 3, 9), TOUGH, IDLE));
        due("one that fled is spared", y.left(1, 0, 3, 0), y.all());
        due("of those up", y.left(1, 1, 19, 1), y.all());
        FairFight z = field(1, row(of(0, 20, 6, 1, 0, 6), striker, striker),
            row(IDLE, IDLE, TOUGH));
        due("down, down, then the last place", z.left(1, 2, 19, 1), z.all());
        says("terms: 1: the least LIFE, of like ones the least PLACE");
        x.laws(1, 1, NONE);
        due("place 0 is spared", x.left(1, 0, 20, 1), x.all());
        due("the first of life 1", x.left(1, 1, 0, 0), x.all());
        due("the second of life 1", x.left(1, 2, 1, 1), x.all());
        FairFight w = field(1, row(striker), row(of(0, 3, 0, 1, 3, 9), TOUGH, idle(19)));
        w.laws(1, 1, NONE);
        due("one that fled is spared", w.left(1, 0, 3, 0), w.all());
        due("the least of those up is the last", w.left(1, 2, 18, 1), w.all());
        z.laws(1, 1, NONE);
        due("nor is one struck that is down", z.left(1, 2, 19, 1), z.all());
        FairFight v = field(1, row(TOUGH, IDLE), row(striker, striker));
        v.laws(1, 1, NONE);
        due("told for all: foes aim so too", v.left(0, 1, 0, 0), v.all());
        due("then at the one that is left", v.left(0, 0, 19, 1), v.all());
    }

    private static void areas() {
        says("terms: An AREA's hit: all of the other SIDE that are UP do");
        int[] area = {AREA, 20, 6, 2, 0, 5};
        FairFight x = field(1, row(area, TOUGH), row(idle(3), idle(2), TOUGH));
        due("3 less 2", x.left(1, 0, 1, 1), x.all());
        due("2 less 2", x.left(1, 1, 0, 0), x.all());
        due("20 less 2", x.left(1, 2, 18, 1), x.all());
        due("none of its own", x.left(0, 1, 20, 1), x.all());
        due("nor itself", x.left(0, 0, 20, 1), x.all());
        FairFight y = field(1, row(area), row(of(0, 3, 0, 1, 3, 9), TOUGH));
        due("one that fled is spared", y.left(1, 0, 3, 0), y.all());
        due("another is not", y.left(1, 1, 18, 1), y.all());
        x.laws(1, 1, NONE);
        due("by no aim", x.left(1, 2, 18, 1), x.all());
    }

    private static void healers() {
        int[] striker = {STRIKER, 20, 6, 5, 0, 9};
        says("terms: has FORCE more, up to what it began with");
        for (int force = 1; force <= 9; force++) {
            FairFight x = duel(1, of(HEALER, 20, 6, force, 0, 0), striker);
            due("15 and " + force, x.left(0, 0, Math.min(20, 15 + force), 1), x.all());
        }
        FairFight y = duel(1, of(HEALER, 20, 6, 9, 0, 0), TOUGH);
        due("nothing to heal", y.left(0, 0, 20, 1), y.all());
        says("terms: of its own SIDE's that are UP that with the least LIFE");
        FairFight z = field(1, row(idle(19), idle(7), of(HEALER, 8, 6, 1, 0, 0)),
            row(striker));
        due("the one struck is not the least", z.left(0, 0, 14, 1), z.all());
        due("the least has its life", z.left(0, 1, 7, 1), z.all());
        FairFight w = field(1, row(idle(6), idle(7), of(HEALER, 8, 6, 3, 0, 0)),
            row(striker));
        due("the least, struck", w.left(0, 0, 4, 1), w.all());
        FairFight v = field(1, row(idle(5), of(HEALER, 8, 6, 3, 0, 0)), row(striker));
        due("one that is down stays so", v.left(0, 0, 0, 0), v.all());
        FairFight u = field(1, row(of(0, 6, 0, 1, 5, 5), of(HEALER, 8, 6, 3, 0, 0)), row(striker));
        due("one that fled is not healed", u.left(0, 0, 1, 0), u.all());
        says("terms: of like ones the least PLACE, has FORCE more");
        int[] area = {AREA, 20, 6, 1, 0, 9};
        FairFight t = field(1, row(idle(6), idle(6), of(HEALER, 6, 6, 3, 0, 0)),
            row(area));
        due("place 0", t.left(0, 0, 6, 1), t.all());
        due("place 1", t.left(0, 1, 5, 1), t.all());
        due("place 2", t.left(0, 2, 5, 1), t.all());
        FairFight s = field(1, row(area), row(idle(6), of(HEALER, 6, 6, 3, 0, 0)));
        due("a foe heals a foe", s.left(1, 0, 6, 1), s.all());
        due("and not itself then", s.left(1, 1, 5, 1), s.all());
    }

    private static void endsOfFights() {
        says("terms: The FIGHT ends as soon as on one SIDE nobody is UP");
        FairFight x = field(6, row(SURE), row(IDLE));
        due("by the first roll", play(x, 1), HEROES_WIN);
        due("rolls", x.played(1), 1);
        due("round", x.played(2), 1);
        due("ends(1)", x.ends(1), x.all());
        FairFight y = field(1, row(SURE, SURE), row(IDLE, IDLE, IDLE));
        due("two of three are down", y.ways(DRAWN), y.all());
        y.laws(2, 0, NONE);
        due("the third in round 2", y.ends(2), y.all());
        FairFight z = duel(1, of(STRIKER, 1, 6, 9, 1, 9), of(STRIKER, 1, 6, 9, 1, 9));
        due("who flees first loses", z.ways(FOES_WIN), z.all());
        due("the other one flees no more", z.left(1, 0, 1, 1), z.all());
        says("terms: at its beginning, too: if nobody is on SIDE 0, FOES WIN; else if nobody is on "
            + "SIDE 1, HEROES WIN");
        FairFight nobody = field(6, row(), row());
        due("nobody at all", nobody.ways(FOES_WIN), 1);
        due("nobody at all", nobody.ways(HEROES_WIN), 0);
        due("nobody at all, played", play(nobody), FOES_WIN);
        FairFight foes = field(6, row(), row(IDLE, IDLE, IDLE));
        due("foes alone", foes.ways(FOES_WIN), 101559956668416L);
        due("foes alone, played", play(foes), FOES_WIN);
        FairFight heroes = field(6, row(IDLE, IDLE, IDLE), row());
        due("heroes alone", heroes.ways(HEROES_WIN), 101559956668416L);
        due("heroes alone, played", play(heroes), HEROES_WIN);
        due("nobody flees either", duelAlone().left(0, 0, 1, 1), 6);
        says("terms: Behind all ROUNDS it is DRAWN");
        FairFight w = duel(6, IDLE, IDLE);
        due("drawn", w.ways(DRAWN), w.all());
        due("drawn, played", play(w, new int[12]), DRAWN);
        FairFight v = duel(1, TOUGH, of(STRIKER, 1, 6, 9, 0, 0));
        v.tune(0, 1, 9);
        due("not by the very last roll", v.ways(FOES_WIN), v.all());
        due("nor played so", play(v, 1, 6), FOES_WIN);
    }

    private static FairFight duelAlone() {
        return field(1, row(of(STRIKER, 1, 6, 9, 19, 9)), row());
    }

    private static void slots() {
        says("terms: ROUNDS times all FIGHTERS of both SIDES");
        FairFight x = crowd();
        for (int heroes = 0; heroes <= 3; heroes++) {
            for (int foes = 0; foes <= 3; foes++) {
                stand(x, 0, 0, heroes);
                stand(x, 1, 3, foes);
                x.laws(6, 0, NONE);
                due(heroes + " and " + foes, x.slots(), 6 * (heroes + foes));
                x.laws(1, 0, NONE);
                due(heroes + " and " + foes, x.slots(), heroes + foes);
            }
        }
        says("terms: 22 at most");
        for (int rounds = 1; rounds <= 6; rounds++) {
            for (int foes = 1; foes <= 3; foes++) {
                int slots = rounds * (3 + foes);
                FairFight y = field(rounds, row(IDLE, IDLE, IDLE), fewIdle(foes));
                due("chance() of " + slots, y.chance(), slots > 22 ? WIDE : 0);
                due("states() of " + slots, y.states(), slots > 22 ? WIDE : 1);
                due("all() of " + slots, y.all(), slots > 22 ? LONG_WIDE : sixTo(slots));
            }
        }
        says("terms: Each SLOT is a roll, also where it is not needed");
        FairFight z = field(4, row(SURE, IDLE, IDLE), row(IDLE, IDLE));
        due("all()", z.all(), 3656158440062976L);
        due("ways(0)", z.ways(HEROES_WIN), 3656158440062976L);
        FairFight w = field(6, row(IDLE), row());
        due("over at its beginning", w.all(), 46656);
    }

    private static int[][] fewIdle(int n) {
        int[][] few = new int[n][];
        for (int i = 0; i < n; i++) {
            few[i] = IDLE;
        }
        return few;
    }

    private static long sixTo(int n) {
        return BigInteger.valueOf(6).pow(n).longValueExact();
    }

    private static void states() {
        says("13: The greatest number of STATES that there are ahead of a SLOT");
        due("one, as nobody hits", duel(6, TOUGH, TOUGH).states(), 1);
        due("one, as all hit", duel(6, of(0, 20, 6, 1, 0, 0), of(0, 20, 6, 1, 0, 0)).states(), 1);
        FairFight x = duel(1, of(STRIKER, 1, 3, 1, 0, 0), of(STRIKER, 2, 0, 1, 0, 9));
        due("behind the last slot they do not count", x.states(), 1);
        x.laws(2, 0, NONE);
        due("ahead of another they do", x.states(), 2);
        says("terms: what LIFE each has, who is UP");
        FairFight y = field(1, row(of(0, 1, 3, 1, 0, 9), of(0, 1, 3, 1, 0, 1)),
            row(of(0, 2, 0, 1, 1, 5), TOUGH));
        // fled of life 1 (the other foe of 20 or 19), up with 1, up with 2
        due("fled and up are unlike", y.states(), 4);
        says("terms: ended ones do not count");
        due("one of two goes on", duel(1, HALF, IDLE).states(), 1);
        due("one of two goes on, each time", duel(6, HALF, IDLE).states(), 1);
        says("13: 0: it is over at its beginning, or there are no SLOTS");
        due("heroes alone", field(3, row(IDLE), row()).states(), 0);
        due("foes alone", field(3, row(), row(IDLE)).states(), 0);
        due("nobody", field(3, row(), row()).states(), 0);
        says("terms: TOO WIDE, if there are more than 400 of them");
        FairFight broad = broad();
        due("states()", broad.states(), 400);
        due("all()", broad.all(), 3656158440062976L);
        due("drawn or won", broad.ways(0) + broad.ways(1) + broad.ways(2), 3656158440062976L);
        FairFight tooBroad = tooBroad();
        due("401: states()", tooBroad.states(), WIDE);
        due("401: all()", tooBroad.all(), LONG_WIDE);
        due("401: chance()", tooBroad.chance(), WIDE);
        for (int end = 0; end < 3; end++) {
            due("401: ways()", tooBroad.ways(end), LONG_WIDE);
        }
        for (int r = 0; r <= 4; r++) {
            due("401: ends()", tooBroad.ends(r), LONG_WIDE);
        }
        due("401: left()", tooBroad.left(1, 2, 15, 1), LONG_WIDE);
        due("slots() stays a number", tooBroad.slots(), 20);
        tooBroad.laws(3, 0, NONE);
        due("a round less is not too wide", tooBroad.states() > 1 ? 1 : 0, 1);
        tooBroad.laws(4, 0, NONE);
        due("but then it is again", tooBroad.states(), WIDE);
    }

    /** Two heroes against three foes: 400 states at most, the most there may be. */
    private static FairFight broad() {
        return field(4, row(of(0, 20, 1, 2, 0, 0), of(0, 15, 4, 3, 0, 0)),
            row(of(1, 19, 5, 2, 0, 6), of(1, 4, 4, 4, 0, 6), of(0, 8, 2, 8, 0, 5)));
    }

    /** The like with 401 states: too wide by one. */
    private static FairFight tooBroad() {
        return field(4, row(of(0, 15, 1, 8, 0, 4), of(0, 20, 3, 2, 0, 8)),
            row(of(0, 16, 4, 4, 0, 4), of(0, 15, 2, 1, 0, 6), of(0, 15, 2, 5, 0, 4)));
    }

    private static void odds() {
        says("9: All WAYS");
        due("of no slots", new FairFight().all(), 1);
        due("of 20 slots", field(4, row(IDLE, IDLE), row(IDLE, IDLE, IDLE)).all(), sixTo(20));
        says("10: 0 HEROES WIN, 1 FOES WIN, 2 DRAWN. BAD");
        FairFight x = duel(1, of(STRIKER, 1, 3, 1, 0, 9), of(STRIKER, 1, 2, 1, 0, 0));
        due("ways(0)", x.ways(0), 18);
        due("ways(1)", x.ways(1), 6);
        due("ways(2)", x.ways(2), 12);
        for (int end : of(-1, 3, LEAST, MOST)) {
            due("ways(" + end + ")", x.ways(end), LONG_BAD);
        }
        says("terms: CHANCE: rounded down");
        due("never", duel(6, IDLE, IDLE).chance(), 0);
        due("always", duel(1, SURE, IDLE).chance(), MILLION);
        int[] sixths = {0, 166666, 333333, 500000, 666666, 833333, MILLION};
        for (int hit = 0; hit <= 6; hit++) {
            due("HIT " + hit, duel(1, of(STRIKER, 1, hit, 1, 0, 9), IDLE).chance(), sixths[hit]);
        }
        // a million times 6 to the power of 20 is more than a long holds
        FairFight y = field(4, row(HALF, IDLE), row(IDLE, TOUGH, TOUGH));
        due("never in 20 slots", y.chance(), 0);
        FairFight z = field(4, row(of(AREA, 1, 3, 1, 0, 9), IDLE), row(IDLE, IDLE, IDLE));
        due("15 of 16 in 20 slots", z.chance(), 937500);
        FairFight w = field(4, row(SURE_AREA, IDLE), row(IDLE, IDLE, IDLE));
        due("always in 20 slots", w.chance(), MILLION);
        leftAndEnds();
    }

    private static void leftAndEnds() {
        says("12: has a LIFE in the end (0 to 20), and is UP (1), or not (0)");
        FairFight x = field(1, row(TOUGH), row(IDLE, TOUGH));
        due("life 20", x.left(0, 0, 20, 1), 216);
        due("life 20, not up", x.left(0, 0, 20, 0), 0);
        due("life 0, up", x.left(0, 0, 0, 1), 0);
        due("life 0", x.left(0, 0, 0, 0), 0);
        for (int life : of(-1, 21, LEAST, MOST)) {
            due("life " + life, x.left(0, 0, life, 1), LONG_BAD);
        }
        for (int up : of(-1, 2, LEAST, MOST)) {
            due("up " + up, x.left(0, 0, 20, up), LONG_BAD);
        }
        for (int s : of(-1, 2, LEAST, MOST)) {
            due("side " + s, x.left(s, 0, 20, 1), LONG_BAD);
        }
        for (int place : of(-1, 3, LEAST, MOST)) {
            due("place " + place, x.left(0, place, 20, 1), LONG_BAD);
        }
        says("12: BAD: also nobody is there");
        due("place 1 of heroes", x.left(0, 1, 20, 1), LONG_BAD);
        due("place 2 of heroes", x.left(0, 2, 20, 1), LONG_BAD);
        due("place 1 of foes", x.left(1, 1, 20, 1), 216);
        due("place 2 of foes", x.left(1, 2, 20, 1), LONG_BAD);
        says("12: all ways together");
        FairFight y = field(2, row(HALF, of(2, 3, 2, 2, 0, 4)), row(of(1, 3, 2, 1, 1, 5)));
        for (int seat : of(0, 1, 3)) {
            long sum = 0;
            for (int life = 0; life <= 20; life++) {
                sum += y.left(seat / 3, seat % 3, life, 0) + y.left(seat / 3, seat % 3, life, 1);
            }
            due("seat " + seat, sum, y.all());
        }
        says("14: in ROUND r (from 1; DRAWN ones do not; 0: it is over at its beginning)");
        FairFight z = duel(2, HALF, IDLE);
        due("ends(0)", z.ends(0), 0);
        due("ends(1)", z.ends(1), 648);
        due("ends(2)", z.ends(2), 324);
        due("drawn ones", z.ways(DRAWN), 324);
        FairFight over = field(2, row(IDLE), row());
        due("ends(0), over", over.ends(0), 36);
        due("ends(1), over", over.ends(1), 0);
        due("ends(2), over", over.ends(2), 0);
        due("ends(0) of nobody", field(2, row(), row()).ends(0), 1);
        says("14: BAD: 0 to ROUNDS");
        for (int rounds = 1; rounds <= 6; rounds++) {
            z.laws(rounds, 0, NONE);
            due("ends(ROUNDS)", z.ends(rounds) > 0 ? 1 : 0, 1);
            due("ends(ROUNDS + 1)", z.ends(rounds + 1), LONG_BAD);
        }
        for (int r : of(-1, LEAST, MOST)) {
            due("ends(" + r + ")", z.ends(r), LONG_BAD);
        }
    }

    /** One object, fight after fight: nothing of the one before may be left. */
    private static void fightAfterFight() {
        says("14: DRAWN ones do not; 0: it is over at its beginning: of one object, by turns");
        FairFight x = duel(2, of(STRIKER, 1, 0, 1, 0, 0), of(STRIKER, 2, 3, 1, 0, 9));
        for (int times = 0; times < 2; times++) {
            x.side(1, NONE, NONE, NONE);
            due("over at its beginning", x.ends(0), 36);
            due("states()", x.states(), 0);
            x.side(1, 1, NONE, NONE);
            due("not over at its beginning", x.ends(0), 0);
            due("the hero falls", x.left(0, 0, 0, 0), 972);
            x.tune(1, 2, 0);
            due("no end", x.ends(1) + x.ends(2), 0);
            due("nobody falls", x.left(0, 0, 0, 0), 0);
            due("drawn", x.ways(DRAWN), 1296);
            x.tune(1, 2, 3);
        }
        says("13: the greatest number ahead of a SLOT: of one object, by turns");
        FairFight y = tooBroad();
        due("too many", y.states(), WIDE);
        y.side(1, NONE, NONE, NONE);
        due("none", y.states(), 0);
        add(y, IDLE);
        y.side(0, 5, NONE, NONE);
        y.side(1, 5, NONE, NONE);
        due("one", y.states(), 1);
        FairFight z = broad();
        due("400", z.states(), 400);
        z.side(0, NONE, NONE, NONE);
        due("none", z.states(), 0);
        z.side(0, 0, 1, NONE);
        due("400", z.states(), 400);
    }

    private static void better() {
        says("15: By how much CHANCE is greater (below 0: less)");
        FairFight x = duel(1, HALF, IDLE);
        due("greater", x.better(0, 2), 166666);
        due("less", x.better(1, 1), -500000);
        due("from never to always", duel(1, of(0, 1, 6, 8, 0, 9), idle(9)).better(0, 3),
            MILLION);
        due("from always to never", duel(1, SURE, idle(9)).better(1, 1), -MILLION);
        says("15: wherever it stands");
        x.side(0, 0, 0, NONE);
        x.side(1, 0, NONE, NONE);
        // two of life 1 beat one by 3/4; of life 2 they can't but by two hits, 1/4
        due("on both sides, twice", x.better(0, 1), 250000 - 750000);
        due("nowhere", x.better(1, 1), 0);
        says("15: BAD: also where it would not be as told");
        for (int what = 1; what < 6; what++) {
            FairFight y = duel(1, of(0, 1, 3, 1, 0, 9), IDLE);
            y.tune(0, what, HIGH[what]);
            due("number " + what, y.better(0, what), LEAST);
            y.tune(0, what, HIGH[what] - 1);
            due("number " + what, y.better(0, what) > LEAST_WIDE ? 1 : 0, 1);
            due("it stays", y.about(0, what), HIGH[what] - 1);
        }
        for (int what : of(0, -1, 6, LEAST, MOST)) {
            due("better(0, " + what + ")", x.better(0, what), LEAST);
        }
        for (int f : of(-1, 2, LEAST, MOST)) {
            due("better(" + f + ", 1)", x.better(f, 1), LEAST);
        }
        says("15: WIDE: with it or without. The least int for BAD, that and 1 for WIDE");
        due("with it alone", broad().better(4, 3), LEAST_WIDE);
        due("without it alone", tooBroad().better(0, 1), LEAST_WIDE);
        FairFight z = field(6, row(IDLE, IDLE), row(IDLE, IDLE));
        due("24 slots", z.better(0, 1), LEAST_WIDE);
        due("24 slots, bad", z.better(0, 0), LEAST);
        add(z, IDLE);
        due("24 slots, one who stands nowhere", z.better(4, 1), LEAST_WIDE);
    }

    private static void withoutAndSurprised() {
        says("16: CHANCE without the HERO at a PLACE");
        FairFight x = field(1, row(IDLE, SURE, IDLE), row(IDLE));
        due("without(0)", x.without(0), MILLION);
        due("without(1)", x.without(1), 0);
        due("without(2)", x.without(2), MILLION);
        due("the last one: foes win", duel(1, SURE, IDLE).without(0), 0);
        due("the last one, no foes either", field(1, row(SURE), row()).without(0), 0);
        due("one of two, no foes", field(1, row(SURE, SURE), row()).without(1), MILLION);
        says("16: those behind it one PLACE less");
        // the foe of speed 5 fells who stands at place 0, or it falls by the striker of speed 4
        FairFight y = field(1, row(IDLE, of(0, 1, 6, 1, 0, 4), IDLE), row(of(0, 1, 6, 1, 0, 5)));
        due("with all: place 0 falls", y.chance(), MILLION);
        due("without place 0 the striker falls", y.without(0), 0);
        due("without place 2 it does not", y.without(2), MILLION);
        says("16: BAD");
        for (int place : of(-1, 3, LEAST, MOST)) {
            due("without(" + place + ")", x.without(place), BAD);
        }
        due("nobody there", duel(1, SURE, IDLE).without(1), BAD);
        due("nobody there", field(1, row(), row(IDLE)).without(0), BAD);
        says("16: WIDE");
        FairFight z = field(6, row(IDLE, IDLE, IDLE), row(IDLE, IDLE));
        due("30 slots, 24 without one", z.without(2), WIDE);
        due("30 slots, nobody there",
            field(6, row(IDLE, IDLE), row(IDLE, IDLE, IDLE)).without(2), BAD);
        due("24 slots, 18 without one", field(6, row(IDLE, IDLE), row(IDLE, IDLE)).without(1), 0);
        FairFight v = tooBroad();
        add(v, IDLE);
        v.side(0, 0, 1, 5);
        due("401 states without the third", v.without(2), WIDE);
        v.side(0, 0, 5, NONE);
        due("of two, the other one is not wide", v.without(0), 0);
        says("17: if nobody, HEROES, FOES (-1, 0, 1) were SURPRISED");
        FairFight w = duel(1, SURE, SURE);
        due("nobody", w.surprised(-1), MILLION);
        due("heroes", w.surprised(0), 0);
        due("foes", w.surprised(1), MILLION);
        w.tune(1, 5, 8);
        w.tune(0, 5, 7);
        due("nobody", w.surprised(-1), 0);
        due("foes", w.surprised(1), MILLION);
        w.laws(1, 0, 1);
        due("nobody, though foes are", w.surprised(-1), 0);
        due("what is told stays", w.count(7), 1);
        says("17: BAD; WIDE");
        for (int s : of(-2, 2, LEAST, MOST)) {
            due("surprised(" + s + ")", w.surprised(s), BAD);
            due("bad ahead of wide", z.surprised(s), BAD);
        }
        for (int s = -1; s <= 1; s++) {
            due("30 slots", z.surprised(s), WIDE);
        }
        due("401 states", tooBroad().surprised(-1), WIDE);
    }

    /** A hero of FORCE 2 that the PURSE could make FORCE 11, against foes of life 2 and 3. */
    private static void noBonus() {
        says("terms: in so many of them at most: of the DAY's FIGHTS alone");
        FairFight x = duel(1, of(0, 1, 6, 2, 0, 9), idle(3));
        add(x, idle(2));
        x.purse(6, 9);
        for (int foe = 1; foe <= 2; foe++) {
            int want = foe == 1 ? 0 : MILLION;
            x.side(1, foe, NONE, NONE);
            due("chance()", x.chance(), want);
            due("surprised(-1)", x.surprised(NONE), want);
            x.side(0, 0, 0, NONE);
            x.side(1, foe, foe, NONE);
            due("chance() of two", x.chance(), foe == 1 ? 0 : MILLION);
            x.side(1, foe, NONE, NONE);
            due("without(0)", x.without(0), want);
            due("without(1)", x.without(1), want);
            x.side(0, 0, NONE, NONE);
            due("play()", play(x, 1, 1), foe == 1 ? DRAWN : HEROES_WIN);
        }
        says("24: CHANCE of a band: no BONUS");
        due("alone of life 2, not of 3", x.wish(MILLION, MILLION), 2);
        due("alone 0", x.band(0), 256);
        due("alone 2", x.band(1), 288);
        FairFight y = duel(2, of(0, 3, 6, 1, 0, 9), of(0, 1, 6, 2, 0, 5));
        y.purse(6, 9);
        // a foe of FORCE 2 strikes once, ahead of its end: of 3 would be too much
        due("two foes of FORCE 2", y.wish(MILLION, MILLION), 2);
        due("alone 1", y.band(0), 272);
        due("twice 1", y.band(1), 17);
    }

    private static void fightsOfTheDay() {
        says("terms: A DAY has up to 6 FIGHTS");
        FairFight x = crowd();
        for (int f = 1; f <= 6; f++) {
            due("fight " + f, x.fight(f, NONE, NONE), f);
        }
        due("a seventh", x.fight(0, NONE, NONE), FULL);
        due("an eighth", x.fight(0, NONE, NONE), FULL);
        due("a bad one", x.fight(NONE, NONE, NONE), BAD);
        due("count(5)", x.count(5), 6);
        says("19: No FIGHTS of the DAY: how many there were");
        due("rest()", x.rest(), 6);
        due("rest() again", x.rest(), 0);
        due("count(5)", x.count(5), 0);
        due("odds(0, 0)", x.odds(0, 0), BAD);
        due("room for one more", x.fight(0, 0, 0), 1);
        due("rest()", x.rest(), 1);
        says("18: BAD: not 1 to 3 FOES as side()");
        due("nobody", x.fight(NONE, NONE, NONE), BAD);
        due("none, one", x.fight(NONE, 1, NONE), BAD);
        due("none, none, one", x.fight(NONE, NONE, 1), BAD);
        due("one, none, one", x.fight(1, NONE, 1), BAD);
        for (int f : of(-2, 16, LEAST, MOST)) {
            due("first " + f, x.fight(f, NONE, NONE), BAD);
            due("second " + f, x.fight(1, f, NONE), BAD);
            due("third " + f, x.fight(1, 1, f), BAD);
        }
        due("none of these came", x.count(5), 0);
        due("one", x.fight(15, NONE, NONE), 1);
        due("two", x.fight(15, 0, NONE), 2);
        due("three", x.fight(15, 0, 15), 3);
        says("terms: A PURSE (0 to 6; 1 at first)");
        FairFight y = new FairFight();
        due("at first", y.count(8), 1);
        for (int p = 0; p <= 6; p++) {
            due("purse(" + p + ", 2)", y.purse(p, 2), 1);
            due("count(8)", y.count(8), p);
        }
        for (int p : of(-1, 7, LEAST, MOST)) {
            due("purse(" + p + ", 1)", y.purse(p, 1), BAD);
        }
        says("terms: BONUS (told, 1 to 9; 1 at first)");
        due("at first", new FairFight().count(9), 1);
        for (int b = 1; b <= 9; b++) {
            due("purse(6, " + b + ")", y.purse(6, b), 1);
            due("count(9)", y.count(9), b);
        }
        for (int b : of(0, 10, -1, LEAST, MOST)) {
            due("purse(1, " + b + ")", y.purse(1, b), BAD);
        }
        says("20: BAD");
        due("of a bad purse nothing is taken", y.count(8), 6);
        due("of a bad bonus nothing is taken", y.count(9), 9);
    }

    /** A sure hero of FORCE 1 (0), and foes of life 1 (1), 2 (2) and 20 (3) that never hit. */
    private static FairFight day() {
        FairFight x = new FairFight();
        add(x, of(0, 1, 6, 1, 0, 9));
        add(x, IDLE);
        add(x, idle(2));
        add(x, TOUGH);
        x.side(0, 0, NONE, NONE);
        x.laws(1, 0, NONE);
        return x;
    }

    private static void bestUse() {
        says("terms: not larger than the PURSE");
        FairFight x = day();
        for (int f = 0; f < 6; f++) {
            x.fight(2, NONE, NONE);
        }
        for (int p = 0; p <= 6; p++) {
            x.purse(p, 1);
            due("day() by purse " + p, x.day(), p * MILLION);
            due("use() by purse " + p, x.use(), (1 << p) - 1);
        }
        says("terms: the one with the greatest sum of CHANCES");
        FairFight y = day();
        for (int foe : of(1, 3, 2, 1, 3, 2)) {
            y.fight(foe, NONE, NONE);
        }
        y.purse(1, 1);
        due("one", y.day(), 3 * MILLION);
        due("one", y.use(), 4);
        y.purse(2, 1);
        due("two", y.day(), 4 * MILLION);
        due("two", y.use(), 4 + 32);
        says("terms: of like ones the fewest");
        y.purse(6, 1);
        due("day()", y.day(), 4 * MILLION);
        due("use()", y.use(), 4 + 32);
        y.rest();
        y.fight(1, NONE, NONE);
        due("nothing is better than nothing", y.use(), 0);
        due("day()", y.day(), MILLION);
        y.rest();
        y.fight(3, NONE, NONE);
        due("where there is no hope", y.use(), 0);
        due("day()", y.day(), 0);
        says("terms: then the least as bits");
        y.rest();
        for (int foe : of(1, 2, 3, 2, 2, 1)) {
            y.fight(foe, NONE, NONE);
        }
        y.purse(1, 1);
        due("one of three", y.use(), 2);
        y.purse(2, 1);
        due("two of three", y.use(), 2 + 8);
        says("terms: against told FOES (rows of 1 to 3), SURPRISE as told");
        FairFight z = day();
        z.fight(1, 1, 1);
        due("three foes, one round", z.odds(0, 0), 0);
        z.laws(3, 0, NONE);
        due("three foes, three rounds", z.odds(0, 0), MILLION);
        z.laws(3, 0, 0);
        due("heroes surprised", z.odds(0, 0), 0);
        due("day()", z.day(), 0);
        z.side(1, 3, 3, 3);
        z.laws(3, 0, NONE);
        due("those on side 1 are not in it", z.odds(0, 0), MILLION);
        due("they fight for themselves", z.chance(), 0);
        bonus();
    }

    private static void bonus() {
        says("terms: each HERO's FORCE is BONUS more");
        FairFight x = new FairFight();
        add(x, of(0, 1, 6, 9, 0, 9));
        add(x, idle(18));
        add(x, idle(19));
        x.side(0, 0, NONE, NONE);
        x.laws(1, 0, NONE);
        x.fight(1, NONE, NONE);
        x.fight(2, NONE, NONE);
        x.purse(1, 9);
        due("9 and 9 are 18", x.odds(0, 1), MILLION);
        due("not 19", x.odds(1, 1), 0);
        due("9 alone", x.odds(0, 0), 0);
        x.purse(1, 8);
        due("9 and 8 are 17", x.odds(0, 1), 0);
        due("it is no number of the fighter", x.about(0, 3), 9);
        x.side(0, 0, 0, NONE);
        x.purse(0, 1);
        due("each one's: twice 10", x.odds(1, 1), MILLION);
        due("each one's: twice 9", x.odds(1, 0), 0);
        FairFight y = new FairFight();
        add(y, idle(2));
        add(y, of(0, 1, 6, 1, 0, 9));
        y.side(0, 0, NONE, NONE);
        y.laws(1, 0, NONE);
        y.fight(1, NONE, NONE);
        y.purse(1, 9);
        // were the foe's force more, it would win at once, and still the heroes would not
        y.laws(2, 0, NONE);
        y.tune(0, 1, 3);
        y.tune(0, 2, 6);
        due("no foe's is: the hero lives and strikes", y.odds(0, 1), MILLION);
        FairFight z = duel(1, of(HEALER, 20, 6, 1, 0, 9), IDLE);
        z.fight(1, NONE, NONE);
        due("a healer with bonus wins nothing", z.odds(0, 1), 0);
        refusedDays();
    }

    private static void refusedDays() {
        says("21, 22: NOT: there are no FIGHTS, no HEROES");
        FairFight x = day();
        due("no fights: day()", x.day(), NOT);
        due("no fights: use()", x.use(), NOT);
        x.fight(1, NONE, NONE);
        due("a fight: day()", x.day(), MILLION);
        x.side(0, NONE, NONE, NONE);
        due("no heroes: day()", x.day(), NOT);
        due("no heroes: use()", x.use(), NOT);
        x.rest();
        due("neither: day()", x.day(), NOT);
        says("23: BAD; NOT: no HEROES");
        due("no such fight, no heroes", x.odds(0, 0), BAD);
        x.fight(1, NONE, NONE);
        due("no heroes", x.odds(0, 0), NOT);
        due("no heroes, with bonus", x.odds(0, 1), NOT);
        x.side(0, 0, NONE, NONE);
        for (int f : of(-1, 1, 6, LEAST, MOST)) {
            due("odds(" + f + ", 0)", x.odds(f, 0), BAD);
        }
        for (int b : of(-1, 2, LEAST, MOST)) {
            due("odds(0, " + b + ")", x.odds(0, b), BAD);
        }
        says("21, 22, 23: WIDE");
        x.side(0, 0, 0, NONE);
        x.fight(1, 1, 1);
        x.fight(1, 1, NONE);
        x.laws(4, 0, NONE);
        due("20 slots", x.odds(1, 0), MILLION);
        due("none is wide", x.day(), 3 * MILLION);
        x.laws(5, 0, NONE);
        due("25 slots", x.odds(1, 0), WIDE);
        due("25 slots, with bonus", x.odds(1, 1), WIDE);
        due("the others are not wide", x.odds(2, 1), MILLION);
        due("one is: day()", x.day(), WIDE);
        due("one is: use()", x.use(), WIDE);
        says("21, 22: one of these, with or without BONUS, is");
        int[][] withoutIt = {{0, 20, 1, 7, 0, 9}, {0, 12, 5, 1, 0, 3}, {0, 17, 2, 3, 0, 6},
            {0, 13, 5, 5, 0, 9}};
        int[][] withIt = {{0, 12, 3, 1, 0, 8}, {0, 20, 2, 2, 0, 1}, {1, 8, 3, 1, 0, 8},
            {0, 14, 4, 5, 0, 6}};
        for (int with = 0; with < 2; with++) {
            FairFight y = new FairFight();
            for (int[] n : with == 0 ? withoutIt : withIt) {
                add(y, n);
            }
            y.side(0, 0, 1, NONE);
            y.fight(2, 3, NONE);
            y.laws(5, 0, NONE);
            for (int p = 0; p <= 1; p++) {
                y.purse(p, 1);
                due("that one is wide", y.odds(0, with), WIDE);
                due("the other is not", y.odds(0, 1 - with) >= 0 ? 1 : 0, 1);
                due("day()", y.day(), WIDE);
                due("use()", y.use(), WIDE);
            }
        }
    }

    private static void wishes() {
        says("24: one or two FOES out of FIGHTERS 0 .. 5");
        FairFight x = new FairFight();
        for (int f = 0; f < 8; f++) {
            add(x, IDLE);
            x.side(0, 0, NONE, NONE);
            int n = Math.min(f + 1, 6);
            due("of " + (f + 1) + " fighters", x.wish(0, MILLION), n + n * (n + 1) / 2);
        }
        says("25: by a, then b (a alone first): 16 a and b, and 256 for one alone (16 a then)");
        int k = 0;
        for (int a = 0; a < 6; a++) {
            due("band(" + k + ")", x.band(k), 256 + 16 * a);
            k++;
            for (int b = a; b < 6; b++) {
                due("band(" + k + ")", x.band(k), 16 * a + b);
                k++;
            }
        }
        says("25: BAD");
        due("behind the last", x.band(27), BAD);
        for (int i : of(-1, 28, LEAST, MOST)) {
            due("band(" + i + ")", x.band(i), BAD);
        }
        due("before any wish", day().band(0), BAD);
        says("24: CHANCE from least to most (0 to 1000000)");
        FairFight y = field(1, row(HALF), row(IDLE, TOUGH));
        due("all", y.wish(0, MILLION), 9);
        due("from 500000 to 500000", y.wish(500000, 500000), 2);
        due("from 500001", y.wish(500001, MILLION), 0);
        due("none", y.band(0), BAD);
        due("to 499999", y.wish(0, 499999), 7);
        due("from 0 to 0", y.wish(0, 0), 7);
        y.tune(0, 2, 6);
        due("from a million to a million", y.wish(MILLION, MILLION), 2);
        due("to a million less 1", y.wish(0, MILLION - 1), 7);
        for (int v : of(-1, LEAST)) {
            due("least " + v, y.wish(v, 5), BAD);
            due("both " + v, y.wish(v, v), BAD);
        }
        for (int v : of(MILLION + 1, MOST)) {
            due("most " + v, y.wish(5, v), BAD);
            due("both " + v, y.wish(v, v), BAD);
        }
        refusedWishes(y);
    }

    private static void refusedWishes(FairFight y) {
        says("24: BAD: also least above most (ahead of NOT); NOT: no HEROES");
        due("6 above 5", y.wish(6, 5), BAD);
        due("a million above 0", y.wish(MILLION, 0), BAD);
        y.side(0, NONE, NONE, NONE);
        due("no heroes, 6 above 5", y.wish(6, 5), BAD);
        due("no heroes, below 0", y.wish(-1, 5), BAD);
        due("no heroes, too much", y.wish(0, MILLION + 1), BAD);
        due("no heroes", y.wish(0, 0), NOT);
        says("25: the latest wish() that was told");
        due("refused ones leave the bands", y.band(6), 34);
        due("and their number", y.band(7), BAD);
        y.side(0, 0, NONE, NONE);
        y.tune(1, 1, 2);
        due("a change of a fighter leaves them", y.band(0), 0);
        due("another wish", y.wish(500000, 500000), 0);
        due("has its own", y.band(0), BAD);
        says("24: those that are WIDE do not count");
        FairFight w = field(5, row(of(0, 20, 1, 7, 0, 9), of(0, 12, 5, 1, 0, 3)),
            row(of(0, 17, 2, 3, 0, 6), of(0, 13, 5, 5, 0, 9)));
        due("20 slots, but too many states", w.chance(), WIDE);
        int bands = w.wish(0, MILLION);
        int tooWide = 0;
        int alone = 0;
        for (int k = 0; k < bands; k++) {
            tooWide += w.band(k) == 16 * 2 + 3 ? 1 : 0;
            alone += w.band(k) >= 256 ? 1 : 0;
        }
        due("that band", tooWide, 0);
        due("bands of one", alone, 4);
        FairFight x = field(6, row(IDLE, IDLE), row());
        due("18 slots alone, 24 by two", x.wish(0, 0), 2);
        due("alone", x.band(0), 256);
        due("alone", x.band(1), 272);
        x.side(0, 0, 0, 0);
        due("24 slots alone", x.wish(0, MILLION), 0);
        x.laws(5, 0, NONE);
        due("20 slots alone", x.wish(0, MILLION), 2);
        x.laws(4, 0, NONE);
        due("20 slots by two", x.wish(0, MILLION), 5);
    }

    private static void playing() {
        FairFight x = duel(2, HALF, IDLE);
        says("26: BAD; NULL");
        for (int s : of(-1, 4, LEAST, MOST)) {
            due("play(" + s + ")", x.play(s), BAD);
        }
        due("a lost one", x.play(0), NULL);
        due("count(6)", x.count(6), 1);
        says("27: before any 0, 1, 2 are 0");
        for (int what = 0; what <= 2; what++) {
            due("played(" + what + ")", x.played(what), 0);
        }
        says("27: BAD: also nobody was there");
        for (int what = 10; what <= 15; what++) {
            due("played(" + what + ") before any", x.played(what), BAD);
        }
        for (int what : of(-1, 3, 9, 16, LEAST, MOST)) {
            due("played(" + what + ")", x.played(what), BAD);
        }
        says("26: INDEX: it has too few items");
        due("none", play(x), INDEX);
        due("count(6)", x.count(6), 2);
        due("three of four", play(x, 6, 6, 6), INDEX);
        due("four of four", play(x, 6, 6, 6, 6), DRAWN);
        due("five for four", play(x, 6, 6, 6, 6, 1), DRAWN);
        due("rolls", x.played(1), 4);
        due("one is enough", play(x, 1), HEROES_WIN);
        says("27: Of the latest play() that told an end");
        due("too few", play(x, 6, 6), INDEX);
        due("end", x.played(0), HEROES_WIN);
        due("rolls", x.played(1), 1);
        due("round", x.played(2), 1);
        due("life of the foe", x.played(13), 0);
        due("a lost one", x.play(0), NULL);
        due("no such one", x.play(4), BAD);
        due("rolls", x.played(1), 1);
        playedRounds(x);
        playedItems();
    }

    private static void playedRounds(FairFight x) {
        says("27: ROUND in which it ended (ROUNDS, if DRAWN)");
        play(x, 6, 6, 1);
        due("in the last", x.played(2), 2);
        due("rolls", x.played(1), 3);
        play(x, 6, 6, 6, 6);
        due("drawn", x.played(2), 2);
        x.laws(6, 0, NONE);
        play(x, new int[12]);
        due("drawn of six", x.played(2), 6);
        says("27: 10 + 3 s + p LIFE of who was at PLACE p of SIDE s");
        FairFight y = field(1, row(idle(11), idle(12), idle(13)),
            row(idle(14), idle(15), idle(16)));
        play(y, new int[6]);
        for (int what = 10; what <= 15; what++) {
            due("played(" + what + ")", y.played(what), what + 1);
        }
        y.side(0, NONE, NONE, NONE);
        due("who was there, not who is", y.played(10), 11);
        says("26: a FIGHT that is over at its beginning");
        due("foes win by no items", play(y), FOES_WIN);
        due("rolls", y.played(1), 0);
        due("round", y.played(2), 0);
        due("nobody was there", y.played(10), BAD);
        due("a foe was", y.played(15), 16);
        says("26: 36 rolls, as no play() is WIDE");
        FairFight z = field(6, row(TOUGH, TOUGH, TOUGH), row(TOUGH, TOUGH, TOUGH));
        due("36 items", play(z, new int[36]), DRAWN);
        due("rolls", z.played(1), 36);
        due("35 items", play(z, new int[35]), INDEX);
    }

    private static void playedItems() {
        says("terms: an item that is not 1 to 6 misses");
        FairFight x = duel(1, SURE, IDLE);
        for (int item = 1; item <= 6; item++) {
            due("item " + item, play(x, item, 1), HEROES_WIN);
        }
        for (int item : of(0, 7, -1, -6, 257, 65537, LEAST, LEAST + 1, MOST)) {
            due("item " + item, play(x, item, 1), DRAWN);
        }
        says("26: by a SHEET of each FORM");
        for (int form = 0; form <= 2; form++) {
            x.sheet(form, form, 2);
            due("items of 0", x.play(form), DRAWN);
            x.put(form, form, 0, 257);
            due("257 in form " + form, x.play(form), form == 0 ? HEROES_WIN : DRAWN);
            x.put(form, form, 0, 65542);
            due("65542 in form " + form, x.play(form), form < 2 ? HEROES_WIN : DRAWN);
            x.put(form, form, 0, 134);
            due("134 in form " + form, x.play(form), DRAWN);
        }
        due("the items stay", x.get(2, 2, 0), 134);
    }

    private static void sheets() {
        FairFight x = new FairFight();
        says("terms: SHEETS 0 .. 3");
        for (int s = 0; s < 4; s++) {
            due("sheet(" + s + ")", x.sheet(s, 0, s), s);
        }
        for (int s : of(-1, 4, LEAST, MOST)) {
            due("sheet(" + s + ")", x.sheet(s, 0, 1), BAD);
            due("lose(" + s + ")", x.lose(s), BAD);
            due("put(" + s + ")", x.put(s, 0, 0, 1), BAD);
            due("get(" + s + ")", x.get(s, 0, 0), LEAST);
            due("copy from " + s, x.copy(s, 0, 3, 0, 1), BAD);
            due("copy to " + s, x.copy(3, 0, s, 0, 1), BAD);
            due("shake(" + s + ")", x.shake(s, 1), BAD);
        }
        says("terms: a FORM: 0 bytes, 1 shorts, 2 ints");
        for (int form : of(-1, 3, LEAST, MOST)) {
            due("sheet of " + form, x.sheet(3, form, 1), BAD);
            due("put of " + form, x.put(3, form, 0, 1), BAD);
            due("get of " + form, x.get(3, form, 0), LEAST);
        }
        due("none of these is a finding", x.count(6), 0);
        says("terms: of 0 to 60 items (0 at first)");
        for (int n : of(0, 1, 59, 60)) {
            for (int form = 0; form <= 2; form++) {
                due("sheet of " + n, x.sheet(0, form, n), n);
                for (int i = 0; i < n; i += 29) {
                    due("item " + i, x.get(0, form, i), 0);
                }
                due("item " + n, x.put(0, form, n, 1), INDEX);
                due("its size", x.lose(0), n);
            }
        }
        says("28: BAD: SHEET, FORM, above 60; SIZE");
        for (int n : of(61, 62, MOST)) {
            due("sheet of " + n, x.sheet(0, 0, n), BAD);
        }
        for (int n : of(-1, -60, LEAST)) {
            due("sheet of " + n, x.sheet(0, 0, n), SIZE);
        }
        due("it is still lost", x.lose(0), NULL);
        due("bad sheet ahead of size", x.sheet(4, 0, -1), BAD);
        due("bad form ahead of size", x.sheet(0, 3, -1), BAD);
        newRows();
    }

    private static void newRows() {
        FairFight x = new FairFight();
        says("28: A SHEET is a new row");
        x.sheet(0, 2, 60);
        x.put(0, 2, 0, 5);
        x.put(0, 2, 59, 6);
        x.sheet(0, 2, 1);
        due("shorter", x.get(0, 2, 0), 0);
        due("its size", x.get(0, 2, 1), LEAST);
        x.sheet(0, 2, 60);
        due("longer", x.get(0, 2, 59), 0);
        x.put(0, 2, 3, 7);
        due("refused", x.sheet(0, 1, -1), SIZE);
        due("then it stays", x.get(0, 2, 3), 7);
        due("refused", x.sheet(0, 1, 61), BAD);
        due("then it stays", x.get(0, 2, 3), 7);
        x.sheet(0, 0, 60);
        due("of another form", x.get(0, 0, 3), 0);
        due("no more of the old one", x.put(0, 2, 3, 1), CAST);
        says("29: It is LOST: how many items it had. BAD; NULL");
        x.put(0, 0, 3, 9);
        due("60", x.lose(0), 60);
        due("again", x.lose(0), NULL);
        due("its items", x.put(0, 0, 3, 1), NULL);
        x.sheet(0, 0, 60);
        due("they do not come back", x.get(0, 0, 3), 0);
        x.sheet(1, 1, 0);
        due("of none", x.lose(1), 0);
        due("of none, again", x.lose(1), NULL);
    }

    private static void items() {
        says("30: becomes v (the lowest bits that it has)");
        FairFight x = new FairFight();
        int[] values = {0, 1, -1, 127, 128, 129, 255, 256, -128, -129, 32767, 32768, 65535, 65536,
            -32768, -32769, MOST, LEAST, LEAST + 1};
        for (int form = 0; form <= 2; form++) {
            x.sheet(form, form, 1);
            for (int v : values) {
                due("put " + v, x.put(form, form, 0, v), 1);
                due("form " + form + " of " + v, x.get(form, form, 0), kept(form, v));
            }
        }
        says("30: BAD; NULL; CAST; INDEX");
        FairFight y = new FairFight();
        y.sheet(0, 1, 3);
        for (int i : of(-1, 3, 60, LEAST, MOST)) {
            due("put at " + i, y.put(0, 1, i, 1), INDEX);
            due("cast ahead of index", y.put(0, 0, i, 1), CAST);
            due("null ahead of cast and index", y.put(1, 0, i, 1), NULL);
            due("bad ahead of all", y.put(1, 3, i, 1), BAD);
        }
        due("ints are not shorts", y.put(0, 2, 0, 1), CAST);
        due("bytes are not shorts", y.put(0, 0, 0, 1), CAST);
        due("first item", y.put(0, 1, 0, 4), 1);
        due("last item", y.put(0, 1, 2, 6), 1);
        due("the first", y.get(0, 1, 0), 4);
        due("between", y.get(0, 1, 1), 0);
        due("the last", y.get(0, 1, 2), 6);
        says("30, 31: of no items");
        y.sheet(2, 0, 0);
        due("put", y.put(2, 0, 0, 1), INDEX);
        due("get", y.get(2, 0, 0), LEAST);
        says("31: BAD: the least int; so are NULL, CAST, INDEX (count() 6 tells)");
        for (int i : of(-1, 3, LEAST, MOST)) {
            y.sheet(0, 0, -1);
            due("get at " + i, y.get(0, 1, i), LEAST);
            due("count(6)", y.count(6), 2);
            due("cast ahead of index", y.get(0, 2, i), LEAST);
            due("count(6)", y.count(6), 3);
            due("null ahead of cast", y.get(1, 2, i), LEAST);
            due("count(6)", y.count(6), 1);
            due("bad ahead of null", y.get(1, 3, i), LEAST);
            due("count(6) stays", y.count(6), 1);
        }
        y.sheet(0, 2, 1);
        y.put(0, 2, 0, LEAST);
        y.sheet(0, 0, -1);
        due("an item that is the least int", y.get(0, 2, 0), LEAST);
        due("is no finding", y.count(6), 5);
    }

    private static long kept(int form, int v) {
        int bits = 8 << form;
        BigInteger low = BigInteger.valueOf(v).mod(BigInteger.ONE.shiftLeft(bits));
        return low.testBit(bits - 1) ? low.subtract(BigInteger.ONE.shiftLeft(bits)).longValueExact()
            : low.longValueExact();
    }

    /** Sheets 0 and 1, shorts 1 .. 5 and 11 .. 13. */
    private static FairFight twoSheets() {
        FairFight x = new FairFight();
        x.sheet(0, 1, 5);
        for (int i = 0; i < 5; i++) {
            x.put(0, 1, i, 1 + i);
        }
        x.sheet(1, 1, 3);
        for (int i = 0; i < 3; i++) {
            x.put(1, 1, i, 11 + i);
        }
        return x;
    }

    private static void holds(FairFight x, int s, int... items) {
        for (int i = 0; i < items.length; i++) {
            due("item " + i + " of sheet " + s, x.get(s, 1, i), items[i]);
        }
    }

    private static void copies() {
        says("32: n items of SHEET s, from i on, come to SHEET t, from j on");
        FairFight x = twoSheets();
        due("all of the shorter", x.copy(1, 0, 0, 2, 3), 1);
        holds(x, 0, 1, 2, 11, 12, 13);
        holds(x, 1, 11, 12, 13);
        due("to its last", x.copy(0, 0, 1, 2, 1), 1);
        holds(x, 1, 11, 12, 1);
        says("32: perhaps s, as they were");
        x = twoSheets();
        due("forward", x.copy(0, 0, 0, 1, 4), 1);
        holds(x, 0, 1, 1, 2, 3, 4);
        x = twoSheets();
        due("backward", x.copy(0, 1, 0, 0, 4), 1);
        holds(x, 0, 2, 3, 4, 5, 5);
        due("onto itself", x.copy(0, 0, 0, 0, 5), 1);
        holds(x, 0, 2, 3, 4, 5, 5);
        says("32: INDEX: below 0, not so many");
        x = twoSheets();
        int[][] beyond = {{-1, 0, 1}, {0, -1, 1}, {0, 0, -1}, {-1, -1, 0}, {-1, 0, 0}, {0, -1, 0},
            {0, 0, 4}, {3, 0, 3}, {0, 1, 3}, {5, 0, 1}, {0, 3, 1}, {4, 0, 2}, {0, 2, 2},
            {1, 1, MOST}, {MOST, 0, 1}, {0, MOST, 1}, {MOST, MOST, MOST}, {LEAST, 0, 1},
            {0, LEAST, 1}, {0, 0, LEAST}, {LEAST, LEAST, LEAST}, {1, 1, LEAST}, {5, 3, LEAST}};
        for (int[] b : beyond) {
            due("copy(0, " + b[0] + ", 1, " + b[1] + ", " + b[2] + ")",
                x.copy(0, b[0], 1, b[1], b[2]), INDEX);
        }
        due("count(6)", x.count(6), 2);
        holds(x, 0, 1, 2, 3, 4, 5);
        holds(x, 1, 11, 12, 13);
        says("32: with n 0, too, if i or j is above how many there are");
        due("both at the end", x.copy(0, 5, 1, 3, 0), 1);
        due("i above", x.copy(0, 6, 1, 3, 0), INDEX);
        due("j above", x.copy(0, 5, 1, 4, 0), INDEX);
        due("i far above", x.copy(0, MOST, 1, 0, 0), INDEX);
        x.sheet(2, 1, 0);
        due("of no items", x.copy(2, 0, 2, 0, 0), 1);
        due("of no items, from 1", x.copy(2, 1, 2, 0, 0), INDEX);
        due("to none", x.copy(0, 0, 2, 0, 1), INDEX);
        due("from none", x.copy(2, 0, 0, 0, 1), INDEX);
        says("32: BAD: the SHEETS; NULL: s, t; STORE");
        due("null: s", x.copy(3, 0, 0, 0, 0), NULL);
        due("null: t", x.copy(0, 0, 3, 0, 0), NULL);
        due("null: both", x.copy(3, 0, 3, 0, 0), NULL);
        for (int form = 0; form <= 2; form++) {
            x.sheet(2, form, 2);
            due("shorts to form " + form, x.copy(0, 0, 2, 0, 1), form == 1 ? 1 : STORE);
            due("form " + form + " to shorts", x.copy(2, 0, 0, 0, 0), form == 1 ? 1 : STORE);
        }
        due("store ahead of index", x.copy(0, -1, 2, 9, -1), STORE);
        due("null ahead of store and index", x.copy(2, -1, 3, 9, -1), NULL);
        due("bad ahead of null", x.copy(3, 0, 4, 0, 0), BAD);
        due("bad ahead of null", x.copy(-1, 0, 3, 0, 0), BAD);
    }

    private static void shakes() {
        says("33: SEED becomes 1103515245 SEED and 12345 (as ints that wrap)");
        BigInteger two32 = BigInteger.ONE.shiftLeft(32);
        for (int form = 0; form <= 2; form++) {
            for (int seed : SHAKEN) {
                FairFight x = new FairFight();
                x.sheet(1, form, 60);
                due("shake", x.shake(1, seed), 60);
                BigInteger s = BigInteger.valueOf(seed);
                for (int i = 0; i < 60; i++) {
                    s = s.multiply(BigInteger.valueOf(1103515245)).add(BigInteger.valueOf(12345));
                    s = s.mod(two32);
                    due("item " + i + " by " + seed, x.get(1, form, i),
                        1 + s.shiftRight(16).intValueExact() % 6);
                }
            }
        }
        says("33: Items of a SHEET, all of them; how many. BAD; NULL");
        FairFight x = new FairFight();
        due("lost", x.shake(0, 1), NULL);
        x.sheet(0, 0, 0);
        due("of no items", x.shake(0, 1), 0);
        x.sheet(0, 0, 1);
        due("of one", x.shake(0, 1), 1);
        due("it is a roll now", x.get(0, 0, 0) >= 1 && x.get(0, 0, 0) <= 6 ? 1 : 0, 1);
        x.sheet(1, 0, 1);
        due("another stays", x.get(1, 0, 0), 0);
    }

    private static void counts() {
        says("34: the number of the latest FINDING (0 before any)");
        FairFight x = new FairFight();
        due("before any", x.count(6), 0);
        x.sheet(0, 0, 1);
        x.sheet(1, 1, 1);
        due("size", x.sheet(0, 0, -1), SIZE);
        due("5", x.count(6), 5);
        due("store", x.copy(0, 0, 1, 0, 1), STORE);
        due("4", x.count(6), 4);
        due("cast", x.put(0, 1, 0, 1), CAST);
        due("3", x.count(6), 3);
        due("index", x.put(0, 0, 1, 1), INDEX);
        due("2", x.count(6), 2);
        due("null", x.lose(2), NULL);
        due("1", x.count(6), 1);
        due("what is told changes it not", x.put(0, 0, 0, 1), 1);
        due("still 1", x.count(6), 1);
        due("nor what is bad", x.put(0, 3, 0, 1), BAD);
        due("still 1", x.count(6), 1);
        says("34: BAD");
        for (int what : of(-1, 10, LEAST, MOST)) {
            due("count(" + what + ")", x.count(what), BAD);
        }
        says("35: as longs that wrap");
        FairFight y = crowd();
        for (int f = 0; f < 16; f++) {
            for (int what = 1; what < 6; what++) {
                y.tune(f, what, HIGH[what] - f % 2);
            }
        }
        y.side(0, 13, 14, 15);
        y.side(1, 12, NONE, NONE);
        y.laws(6, 1, 1);
        y.purse(6, 9);
        y.fight(1, 2, 3);
        play(y, new int[60]);
        due("digest of a full one", y.digest(), digestByHand(y));
        due("digest of a new one", new FairFight().digest(), digestByHand(new FairFight()));
        long before = y.digest();
        y.lose(0);
        due("a finding is not in it", y.digest(), before);
    }

    /** By whole numbers that know no end, cut to 64 bits at last. */
    private static long digestByHand(FairFight x) {
        BigInteger h = BigInteger.valueOf(17);
        for (int what : of(0, 1, 2, 3, 4, 5, 7, 8, 9)) {
            h = digested(h, x.count(what));
        }
        for (int f = 0; f < x.count(0); f++) {
            for (int what = 0; what <= 5; what++) {
                h = digested(h, x.about(f, what));
            }
        }
        for (int seat = 0; seat < 6; seat++) {
            h = digested(h, x.at(seat / 3, seat % 3));
        }
        for (int what = 0; what <= 2; what++) {
            h = digested(h, x.played(what));
        }
        return h.longValue();
    }

    private static BigInteger digested(BigInteger h, int v) {
        return h.multiply(BigInteger.valueOf(31)).add(BigInteger.valueOf(v));
    }

    private static void manyCalls() {
        says("what it is: at most 512 calls after it has been made");
        // five fighters, two sides and the laws are its first calls
        FairFight x = broad();
        int calls = 8;
        for (; calls < 511; calls++) {
            if (x.states() != 400) {
                break;
            }
        }
        due("the first 511 calls", calls, 511);
        due("the 512th", x.all(), 3656158440062976L);
    }

    public static void main(String[] args) {
        newObject();
        fighters();
        sides();
        laws();
        turns();
        flight();
        hits();
        endsOfFights();
        slots();
        states();
        odds();
        fightAfterFight();
        better();
        withoutAndSurprised();
        noBonus();
        fightsOfTheDay();
        bestUse();
        wishes();
        playing();
        sheets();
        items();
        copies();
        shakes();
        counts();
        manyCalls();
        endOfSentence();
        System.out.println(wrong == 0
            ? "all " + seen + " answers to " + sentences + " sentences are as due"
            : wrong + " answers of " + seen + " are not as due");
        if (wrong != 0) {
            System.exit(1);
        }
    }
}
