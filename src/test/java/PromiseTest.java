/**
 * One section for each promise of the document: ordinary calls, the edges that it names, and wrong
 * ones, with answers reckoned by hand from its words.
 */
public final class PromiseTest {
    private static final int NONE = -1, BAD = -2, NOT = -3, FULL = -4, WIDE = -5;
    private static final int NULL = -11, INDEX = -12, CAST = -13, STORE = -14, SIZE = -15;
    private static final int LEAST = Integer.MIN_VALUE, LEAST_WIDE = Integer.MIN_VALUE + 1;
    private static final long LONG_BAD = Long.MIN_VALUE + 2, LONG_WIDE = Long.MIN_VALUE + 5;
    private static final int STRIKER = 0, AREA = 1, HEALER = 2;

    private static int wrong = 0;
    private static int seen = 0;

    private static void due(int promise, String what, long got, long want) {
        seen++;
        if (got != want) {
            wrong++;
            System.out.println("promise " + promise + ": " + what + " answered " + got + ", due is "
                + want);
        }
    }

    private static int[] of(int... numbers) {
        return numbers;
    }

    /** An object with fighters of six numbers each. */
    private static FairFight with(int[]... fighters) {
        FairFight x = new FairFight();
        for (int[] n : fighters) {
            x.fighter(n[0], n[1], n[2], n[3], n[4], n[5]);
        }
        return x;
    }

    /** One hero against one foe, both of life 1, one round: 36 ways, 18 won, 6 lost, 12 drawn. */
    private static FairFight duel() {
        FairFight x = with(of(STRIKER, 1, 3, 1, 0, 1), of(STRIKER, 1, 2, 1, 0, 0));
        x.side(0, 0, NONE, NONE);
        x.side(1, 1, NONE, NONE);
        x.laws(1, 0, NONE);
        return x;
    }

    /** Two heroes against three foes, four rounds: 400 states at most, the most there may be. */
    private static FairFight broad() {
        FairFight x = with(of(0, 20, 1, 2, 0, 0), of(0, 15, 4, 3, 0, 0), of(1, 19, 5, 2, 0, 6),
            of(1, 4, 4, 4, 0, 6), of(0, 8, 2, 8, 0, 5));
        x.side(0, 0, 1, NONE);
        x.side(1, 2, 3, 4);
        x.laws(4, 0, NONE);
        return x;
    }

    /** The like with 401 states: too wide by one. */
    private static FairFight tooBroad() {
        FairFight x = with(of(0, 15, 1, 8, 0, 4), of(0, 20, 3, 2, 0, 8), of(0, 16, 4, 4, 0, 4),
            of(0, 15, 2, 1, 0, 6), of(0, 15, 2, 5, 0, 4));
        x.side(0, 0, 1, NONE);
        x.side(1, 2, 3, 4);
        x.laws(4, 0, NONE);
        return x;
    }

    private static void rolls(FairFight x, int sheet, int... items) {
        x.sheet(sheet, 2, items.length);
        for (int i = 0; i < items.length; i++) {
            x.put(sheet, 2, i, items[i]);
        }
    }

    private static void newObject() {
        FairFight x = new FairFight();
        int[] counts = {0, 0, 0, 3, 0, 0, 0, NONE, 1, 1};
        for (int what = 0; what < counts.length; what++) {
            due(1, "count(" + what + ")", x.count(what), counts[what]);
        }
        for (int place = 0; place < 3; place++) {
            due(1, "at(0, p)", x.at(0, place), NONE);
            due(1, "at(1, p)", x.at(1, place), NONE);
        }
        due(1, "about(0, 0)", x.about(0, 0), BAD);
        due(1, "rest()", x.rest(), 0);
        due(1, "band(0)", x.band(0), BAD);
        for (int s = 0; s < 4; s++) {
            due(1, "play", x.play(s), NULL);
            due(1, "lose", x.lose(s), NULL);
        }
        due(1, "count(6)", x.count(6), 1);
        due(1, "digest of another", new FairFight().digest(), x.digest());
    }

    private static void fighters() {
        int[] low = {0, 1, 0, 1, 0, 0};
        int[] high = {2, 20, 6, 9, 19, 9};
        FairFight x = new FairFight();
        for (int what = 0; what < 6; what++) {
            for (int step = 0; step < 2; step++) {
                int[] n = low.clone();
                n[what] = step == 0 ? low[what] - 1 : high[what] + 1;
                due(2, "a number not as told", x.fighter(n[0], n[1], n[2], n[3], n[4], n[5]), BAD);
            }
        }
        due(2, "fighter, least numbers", x.fighter(0, 1, 0, 1, 0, 0), 0);
        due(2, "fighter, greatest numbers", x.fighter(2, 20, 6, 9, 19, 9), 1);
        due(2, "count(0)", x.count(0), 2);
        for (int what = 0; what < 6; what++) {
            due(3, "about(0, w)", x.about(0, what), low[what]);
            due(3, "about(1, w)", x.about(1, what), high[what]);
        }
        due(3, "about(0, -1)", x.about(0, -1), BAD);
        due(3, "about(0, 6)", x.about(0, 6), BAD);
        due(3, "about(-1, 0)", x.about(-1, 0), BAD);
        due(3, "about(2, 0)", x.about(2, 0), BAD);
        for (int f = 2; f < 16; f++) {
            due(2, "fighter", x.fighter(1, f, 1, 1, 1, 1), f);
        }
        long digest = x.digest();
        due(2, "a 17th fighter", x.fighter(0, 1, 1, 1, 1, 1), FULL);
        due(2, "a 17th that is bad", x.fighter(0, 0, 1, 1, 1, 1), BAD);
        due(2, "count(0) of a full one", x.count(0), 16);
        due(2, "digest of a full one", x.digest(), digest);
        due(3, "about(15, 1)", x.about(15, 1), 15);
        due(3, "about(16, 1)", x.about(16, 1), BAD);
        for (int what = 1; what < 6; what++) {
            due(4, "tune to the greatest", x.tune(0, what, high[what]), low[what]);
            due(4, "tune above", x.tune(0, what, high[what] + 1), BAD);
            due(4, "about", x.about(0, what), high[what]);
            due(4, "tune to the least", x.tune(0, what, low[what]), high[what]);
            due(4, "tune below", x.tune(0, what, low[what] - 1), BAD);
            due(4, "about", x.about(0, what), low[what]);
        }
        due(4, "tune of the kind", x.tune(0, 0, 1), BAD);
        due(4, "tune(0, 6, 1)", x.tune(0, 6, 1), BAD);
        due(4, "tune(-1, 1, 1)", x.tune(-1, 1, 1), BAD);
        due(4, "tune(16, 1, 1)", x.tune(16, 1, 1), BAD);
        due(4, "digest", x.digest(), digest);
        FairFight d = duel();
        d.tune(0, 2, 6);
        due(4, "chance after tune", d.chance(), 1000000);
    }

    private static void sides() {
        FairFight x = with(of(0, 1, 0, 1, 0, 0), of(0, 1, 0, 1, 0, 0), of(0, 1, 0, 1, 0, 0));
        due(5, "side of three", x.side(0, 2, 0, 2), 3);
        due(6, "at(0, 0)", x.at(0, 0), 2);
        due(6, "at(0, 1)", x.at(0, 1), 0);
        due(6, "at(0, 2)", x.at(0, 2), 2);
        due(6, "at(1, 0)", x.at(1, 0), NONE);
        due(5, "side(1)", x.side(1, 1, 2, NONE), 2);
        due(6, "at(1, 1)", x.at(1, 1), 2);
        due(6, "at(1, 2)", x.at(1, 2), NONE);
        due(5, "count(1)", x.count(1), 3);
        due(5, "count(2)", x.count(2), 2);
        long digest = x.digest();
        due(5, "one behind NONE", x.side(0, NONE, 1, NONE), BAD);
        due(5, "one behind two NONE", x.side(0, NONE, NONE, 1), BAD);
        due(5, "one behind NONE", x.side(0, 1, NONE, 1), BAD);
        due(5, "no such fighter", x.side(0, 3, NONE, NONE), BAD);
        due(5, "no such fighter", x.side(0, 0, 3, NONE), BAD);
        due(5, "no such fighter", x.side(0, 0, 0, 3), BAD);
        due(5, "no such fighter", x.side(0, -2, NONE, NONE), BAD);
        due(5, "no such side", x.side(2, 0, NONE, NONE), BAD);
        due(5, "no such side", x.side(-1, 0, NONE, NONE), BAD);
        due(5, "digest after refusals", x.digest(), digest);
        due(6, "at(2, 0)", x.at(2, 0), BAD);
        due(6, "at(-1, 0)", x.at(-1, 0), BAD);
        due(6, "at(0, 3)", x.at(0, 3), BAD);
        due(6, "at(0, -1)", x.at(0, -1), BAD);
        due(5, "a shorter row", x.side(0, 1, NONE, NONE), 1);
        due(6, "at behind it", x.at(0, 1), NONE);
        due(5, "nobody", x.side(0, NONE, NONE, NONE), 0);
        due(6, "at of nobody", x.at(0, 0), NONE);
    }

    private static void laws() {
        FairFight x = new FairFight();
        due(7, "laws(1, 0, -1)", x.laws(1, 0, NONE), 1);
        due(7, "laws(6, 1, 1)", x.laws(6, 1, 1), 1);
        int[][] bad = {{0, 0, 0}, {7, 0, 0}, {3, 2, 0}, {3, -1, 0}, {3, 0, 2}, {3, 0, -2}};
        for (int[] b : bad) {
            due(7, "laws not as told", x.laws(b[0], b[1], b[2]), BAD);
        }
        due(7, "count(3)", x.count(3), 6);
        due(7, "count(4)", x.count(4), 1);
        due(7, "count(7)", x.count(7), 1);
        due(7, "laws(2, 0, 0)", x.laws(2, 0, 0), 1);
        due(7, "count(7)", x.count(7), 0);
    }

    private static void ways() {
        FairFight x = duel();
        due(8, "slots()", x.slots(), 2);
        due(9, "all()", x.all(), 36);
        due(10, "ways(0)", x.ways(0), 18);
        due(10, "ways(1)", x.ways(1), 6);
        due(10, "ways(2)", x.ways(2), 12);
        due(10, "ways(3)", x.ways(3), LONG_BAD);
        due(10, "ways(-1)", x.ways(-1), LONG_BAD);
        due(11, "chance()", x.chance(), 500000);
        due(12, "hero up", x.left(0, 0, 1, 1), 30);
        due(12, "hero down", x.left(0, 0, 0, 0), 6);
        due(12, "foe up", x.left(1, 0, 1, 1), 18);
        due(12, "foe down", x.left(1, 0, 0, 0), 18);
        due(12, "foe fled", x.left(1, 0, 1, 0), 0);
        due(12, "hero of 20", x.left(0, 0, 20, 1), 0);
        int[][] bad = {{2, 0, 1, 1}, {-1, 0, 1, 1}, {0, 1, 1, 1}, {0, 3, 1, 1}, {0, -1, 1, 1},
            {0, 0, 21, 1}, {0, 0, -1, 1}, {0, 0, 1, 2}, {0, 0, 1, -1}};
        for (int[] b : bad) {
            due(12, "left not as told", x.left(b[0], b[1], b[2], b[3]), LONG_BAD);
        }
        due(13, "states()", x.states(), 1);
        due(14, "ends(0)", x.ends(0), 0);
        due(14, "ends(1)", x.ends(1), 24);
        due(14, "ends(2)", x.ends(2), LONG_BAD);
        due(14, "ends(-1)", x.ends(-1), LONG_BAD);
        x.tune(0, 2, 0);
        due(11, "no hit at all", x.chance(), 0);
        due(13, "no hit, one state", x.states(), 1);
        x.tune(0, 2, 6);
        due(10, "always a hit", x.ways(0), 36);
    }

    private static void nobody() {
        FairFight x = new FairFight();
        due(8, "slots() of nobody", x.slots(), 0);
        due(9, "all() of nobody", x.all(), 1);
        due(10, "nobody: foes win", x.ways(1), 1);
        due(10, "nobody: heroes do not", x.ways(0), 0);
        due(13, "states() of nobody", x.states(), 0);
        due(14, "ends(0) of nobody", x.ends(0), 1);
        FairFight y = duel();
        y.side(1, NONE, NONE, NONE);
        due(8, "slots() of one", y.slots(), 1);
        due(10, "no foes: heroes win", y.ways(0), 6);
        due(11, "no foes: chance", y.chance(), 1000000);
        due(12, "no foes: left", y.left(0, 0, 1, 1), 6);
        due(12, "no foes: left of one", y.left(1, 0, 1, 1), LONG_BAD);
        due(13, "no foes: states", y.states(), 0);
        due(14, "no foes: ends(0)", y.ends(0), 6);
        due(14, "no foes: ends(1)", y.ends(1), 0);
        FairFight z = duel();
        z.side(0, NONE, NONE, NONE);
        due(10, "no heroes: foes win", z.ways(1), 6);
        due(11, "no heroes: chance", z.chance(), 0);
    }

    private static void longFights() {
        FairFight x = with(of(0, 20, 1, 9, 0, 9), of(0, 1, 0, 1, 0, 0));
        x.side(0, 0, NONE, NONE);
        x.side(1, 1, NONE, NONE);
        x.laws(6, 0, NONE);
        due(10, "six rounds", x.ways(0), 1447782336L);
        due(11, "six rounds", x.chance(), 665102);
        long behind = 362797056L;
        for (int round = 1; round <= 6; round++) {
            due(14, "ends(" + round + ")", x.ends(round), behind);
            behind = behind / 6 * 5;
        }
        FairFight y = with(of(AREA, 1, 1, 1, 0, 9), of(0, 1, 0, 1, 0, 0));
        y.side(0, 0, 1, NONE);
        y.side(1, 1, 1, NONE);
        y.laws(5, 0, NONE);
        due(8, "slots() of 20", y.slots(), 20);
        due(9, "all() of 20", y.all(), 3656158440062976L);
        due(10, "ways(0) of 20", y.ways(0), 2186830363262976L);
        due(11, "a million times is more than a long", y.chance(), 598122);
    }

    private static void wide() {
        FairFight x = broad();
        due(13, "400 states", x.states(), 400);
        due(9, "all() of 400 states", x.all(), 3656158440062976L);
        due(11, "chance() of 400 states", x.chance(), 0);
        FairFight y = tooBroad();
        due(8, "slots() of 401 states", y.slots(), 20);
        due(13, "401 states", y.states(), WIDE);
        due(9, "all()", y.all(), LONG_WIDE);
        due(10, "ways(2)", y.ways(2), LONG_WIDE);
        due(10, "ways(3): bad ahead of wide", y.ways(3), LONG_BAD);
        due(11, "chance()", y.chance(), WIDE);
        due(12, "left", y.left(0, 0, 1, 1), LONG_WIDE);
        due(12, "left: bad ahead of wide", y.left(0, 2, 1, 1), LONG_BAD);
        due(14, "ends(1)", y.ends(1), LONG_WIDE);
        due(14, "ends(5): bad ahead of wide", y.ends(5), LONG_BAD);
        due(17, "surprised(-1)", y.surprised(NONE), WIDE);
        FairFight z = duel();
        z.side(0, 0, 0, NONE);
        z.side(1, 1, 1, NONE);
        z.laws(6, 0, NONE);
        due(8, "slots() of 24", z.slots(), 24);
        due(9, "all() of 24", z.all(), LONG_WIDE);
        due(13, "states() of 24", z.states(), WIDE);
        due(16, "without one: 18 slots", z.without(0) >= 0 ? 1 : 0, 1);
        due(17, "surprised of 24", z.surprised(0), WIDE);
        z.side(0, 0, 0, 0);
        due(16, "without one: still 24", z.without(0), WIDE);
    }

    /** What a fight does, seen by rolls that are told. */
    private static void fights() {
        // like speeds: heroes ahead of foes, then the lesser place; the greatest speed first
        FairFight x = with(of(0, 9, 6, 1, 0, 5), of(0, 9, 6, 2, 0, 5), of(0, 9, 6, 4, 0, 9));
        x.side(0, 0, 1, NONE);
        x.side(1, 1, 2, NONE);
        x.laws(1, 0, NONE);
        rolls(x, 0, 1, 0, 0, 0);
        due(26, "the fastest first", x.play(0), 2);
        due(27, "struck by the foe of speed 9", x.played(10), 5);
        rolls(x, 0, 0, 1, 0, 0);
        x.play(0);
        due(27, "then the hero at place 0", x.played(13), 8);
        rolls(x, 0, 0, 0, 1, 0);
        x.play(0);
        due(27, "then the hero at place 1", x.played(13), 7);
        rolls(x, 0, 0, 0, 0, 1);
        x.play(0);
        due(27, "then the foe of like speed", x.played(10), 7);
        // aim: the least place, or the least life and of like ones the least place
        FairFight y = with(of(0, 9, 6, 1, 0, 5), of(0, 3, 0, 1, 0, 0), of(0, 2, 0, 1, 0, 0));
        y.side(0, 0, NONE, NONE);
        y.side(1, 1, 2, 2);
        y.laws(1, 0, NONE);
        rolls(y, 0, 1, 0, 0, 0);
        y.play(0);
        due(26, "aim 0", y.played(13), 2);
        y.laws(1, 1, NONE);
        y.play(0);
        due(26, "aim 1 spares place 0", y.played(13), 3);
        due(26, "aim 1 strikes place 1", y.played(14), 1);
        due(26, "aim 1 spares place 2", y.played(15), 2);
        y.side(0, 1, 1, 1);
        y.side(1, 2, 0, NONE);
        rolls(y, 0, 1, 0, 0, 0, 0);
        y.play(0);
        due(26, "a foe's aim 1 strikes no foe", y.played(13), 2);
        due(26, "but the first of the heroes", y.played(10), 2);
        kinds();
        flight();
        surprise();
    }

    private static void kinds() {
        FairFight x = with(of(AREA, 9, 3, 2, 0, 5), of(HEALER, 7, 2, 4, 0, 9), of(0, 2, 6, 1, 0, 3));
        x.side(0, 0, NONE, NONE);
        x.side(1, 1, 2, NONE);
        x.laws(2, 0, NONE);
        rolls(x, 0, 1, 3, 1);
        // the healer's first hit finds all with their full life; then both foes are struck
        due(26, "too few rolls for round 2", x.play(0), INDEX);
        rolls(x, 0, 1, 3, 3, 4, 6);
        due(26, "an area's hit", x.play(0), 2);
        due(27, "rolls: one is down, so four", x.played(1), 4);
        due(27, "the healer was struck", x.played(13), 5);
        due(27, "the striker is down", x.played(14), 0);
        rolls(x, 0, 1, 3, 2, 4);
        x.play(0);
        due(26, "the healer heals itself up to its life", x.played(13), 7);
        x.tune(2, 1, 4);
        rolls(x, 0, 0, 1, 0, 2, 0, 0);
        x.play(0);
        due(26, "the one with the least life is healed", x.played(14), 4);
        due(26, "the other one is not", x.played(13), 5);
        rolls(x, 0, 0, 4, 0, 3, 0, 0);
        x.play(0);
        due(26, "a roll above HIT misses", x.played(13), 7);
    }

    private static void flight() {
        FairFight x = with(of(0, 6, 6, 2, 0, 5), of(0, 5, 6, 1, 3, 4));
        x.side(0, 0, NONE, NONE);
        x.side(1, 1, NONE, NONE);
        rolls(x, 0, 6, 1);
        due(26, "it flees with FLEE or less", x.play(0), 0);
        due(27, "it does not roll", x.played(1), 1);
        due(27, "its life stays", x.played(13), 3);
        due(12, "fled", x.left(1, 0, 3, 0), x.all());
        x.tune(1, 4, 2);
        rolls(x, 0, 6, 1, 1, 1);
        due(26, "with more it stays", x.play(0), 0);
        due(27, "it rolled", x.played(1), 3);
        due(27, "it struck", x.played(10), 5);
        due(27, "life 1 of 5", x.played(13), 1);
        x.tune(1, 4, 19);
        due(14, "it flees at its first turn", x.ends(1), x.all());
    }

    private static void surprise() {
        FairFight x = duel();
        due(17, "nobody", x.surprised(NONE), 500000);
        due(17, "heroes", x.surprised(0), 0);
        due(17, "foes", x.surprised(1), 500000);
        due(17, "surprised(2)", x.surprised(2), BAD);
        due(17, "surprised(-2)", x.surprised(-2), BAD);
        due(17, "it changes no law", x.count(7), NONE);
        x.laws(2, 0, 0);
        due(17, "round 2 is as ever", x.chance(), 333333);
        due(17, "as told of another", x.surprised(0), 333333);
        // drawn in round 1 by a third, or, foes first surprised, by a half
        due(17, "nobody in two rounds", x.surprised(NONE), 666666);
        due(17, "foes in two rounds", x.surprised(1), 750000);
        rolls(x, 0, 3);
        due(26, "a surprised one rolls not", x.play(0), INDEX);
        rolls(x, 0, 3, 3);
        due(26, "in round 2 it does", x.play(0), 0);
        due(27, "round", x.played(2), 2);
        // one who is surprised does not flee either
        x.laws(1, 0, 1);
        x.tune(1, 4, 5);
        due(11, "no turn, no flight", x.chance(), 500000);
    }

    private static void better() {
        FairFight x = duel();
        long digest = x.digest();
        due(15, "hero's hit", x.better(0, 2), 166666);
        due(15, "hero's force", x.better(0, 3), 0);
        due(15, "hero's flee", x.better(0, 4), -500000);
        due(15, "foe's life", x.better(1, 1), -500000);
        due(15, "foe's hit", x.better(1, 2), 0);
        due(15, "foe's flee", x.better(1, 4), 500000);
        due(15, "foe's speed: as fast", x.better(1, 5), 0);
        due(15, "it changes nothing", x.digest(), digest);
        x.tune(1, 5, 1);
        due(15, "foe's speed: faster", x.better(1, 5), 333333 - 500000);
        due(15, "what 0", x.better(0, 0), LEAST);
        due(15, "what 6", x.better(0, 6), LEAST);
        due(15, "what -1", x.better(0, -1), LEAST);
        due(15, "fighter -1", x.better(-1, 1), LEAST);
        due(15, "fighter 2", x.better(2, 1), LEAST);
        int[] high = {2, 20, 6, 9, 19, 9};
        for (int what = 1; what < 6; what++) {
            x.tune(0, what, high[what]);
            due(15, "would not be as told", x.better(0, what), LEAST);
            x.tune(0, what, high[what] - 1);
            due(15, "would be as told", x.better(0, what) == LEAST ? 1 : 0, 0);
        }
        FairFight y = duel();
        y.side(1, 0, NONE, NONE);
        due(15, "wherever it stands", y.better(0, 1), -500000);
        due(15, "who stands nowhere", y.better(1, 1), 0);
        due(15, "wide with it alone", broad().better(4, 3), LEAST_WIDE);
        due(15, "not wide", broad().better(4, 1), 0);
        due(15, "wide without it alone", tooBroad().better(0, 1), LEAST_WIDE);
        due(15, "bad ahead of wide", tooBroad().better(1, 1), LEAST);
    }

    private static void without() {
        FairFight x = duel();
        due(16, "nobody is left", x.without(0), 0);
        x.fighter(0, 1, 0, 1, 0, 0);
        x.side(0, 2, 0, NONE);
        due(16, "the striker alone", x.without(0), 500000);
        due(16, "the other one alone", x.without(1), 0);
        due(16, "nobody there", x.without(2), BAD);
        due(16, "without(3)", x.without(3), BAD);
        due(16, "without(-1)", x.without(-1), BAD);
        due(16, "it changes nothing", x.count(1), 2);
        x.tune(1, 1, 2);
        due(16, "without bonus", x.without(0), 0);
        x.side(0, NONE, NONE, NONE);
        due(16, "no heroes", x.without(0), BAD);
    }

    /** A hero that hits by half, with force 1, and foes of life 2 (0), 1 (1) that never hit. */
    private static FairFight dayOfThree() {
        FairFight x = with(of(0, 2, 0, 1, 0, 0), of(0, 1, 0, 1, 0, 0), of(0, 1, 3, 1, 0, 9));
        x.side(0, 2, NONE, NONE);
        x.laws(1, 0, NONE);
        x.fight(0, NONE, NONE);
        x.fight(0, NONE, NONE);
        x.fight(1, NONE, NONE);
        return x;
    }

    private static void dayFights() {
        FairFight x = with(of(0, 2, 0, 1, 0, 0));
        due(18, "no foes", x.fight(NONE, NONE, NONE), BAD);
        due(18, "behind NONE", x.fight(0, NONE, 0), BAD);
        due(18, "no such one", x.fight(1, NONE, NONE), BAD);
        due(18, "no such one", x.fight(0, 0, -2), BAD);
        due(18, "count(5)", x.count(5), 0);
        for (int f = 1; f <= 6; f++) {
            due(18, "fight", x.fight(0, f % 2 == 0 ? 0 : NONE, NONE), f);
        }
        due(18, "a seventh", x.fight(0, NONE, NONE), FULL);
        due(18, "a seventh that is bad", x.fight(5, NONE, NONE), BAD);
        due(18, "count(5)", x.count(5), 6);
        due(19, "rest()", x.rest(), 6);
        due(19, "count(5)", x.count(5), 0);
        due(19, "rest() again", x.rest(), 0);
        due(18, "one more", x.fight(0, 0, 0), 1);
        due(20, "purse(0, 1)", x.purse(0, 1), 1);
        due(20, "purse(6, 9)", x.purse(6, 9), 1);
        int[][] bad = {{-1, 1}, {7, 1}, {1, 0}, {1, 10}};
        for (int[] b : bad) {
            due(20, "purse not as told", x.purse(b[0], b[1]), BAD);
        }
        due(20, "count(8)", x.count(8), 6);
        due(20, "count(9)", x.count(9), 9);
    }

    private static void day() {
        FairFight x = dayOfThree();
        int[] days = {500000, 1000000, 1500000, 1500000, 1500000, 1500000, 1500000};
        int[] uses = {0, 1, 3, 3, 3, 3, 3};
        for (int p = 0; p <= 6; p++) {
            x.purse(p, 1);
            due(21, "day() of purse " + p, x.day(), days[p]);
            due(22, "use() of purse " + p, x.use(), uses[p]);
        }
        due(23, "odds(0, 0)", x.odds(0, 0), 0);
        due(23, "odds(0, 1)", x.odds(0, 1), 500000);
        due(23, "odds(2, 0)", x.odds(2, 0), 500000);
        due(23, "odds(2, 1)", x.odds(2, 1), 500000);
        due(23, "odds(3, 0)", x.odds(3, 0), BAD);
        due(23, "odds(-1, 0)", x.odds(-1, 0), BAD);
        due(23, "odds(0, 2)", x.odds(0, 2), BAD);
        due(23, "odds(0, -1)", x.odds(0, -1), BAD);
        x.tune(0, 1, 4);
        due(23, "bonus 1 is too little", x.odds(0, 1), 0);
        x.purse(1, 3);
        due(23, "bonus 3 is enough", x.odds(0, 1), 500000);
        x.tune(2, 2, 6);
        due(21, "heroes as they are", x.day(), 2000000);
        x.laws(1, 0, 0);
        due(21, "surprise as told", x.day(), 0);
        due(22, "of like ones the fewest", x.use(), 0);
        x.side(0, NONE, NONE, NONE);
        due(21, "no heroes", x.day(), NOT);
        due(22, "no heroes", x.use(), NOT);
        due(23, "no heroes", x.odds(0, 0), NOT);
        due(23, "bad ahead of not", x.odds(3, 0), BAD);
        x.side(0, 0, NONE, NONE);
        x.rest();
        due(21, "no fights", x.day(), NOT);
        due(22, "no fights", x.use(), NOT);
        // the bonus is the heroes' alone, also for one who stands on both sides
        FairFight y = with(of(0, 2, 3, 1, 0, 0));
        y.side(0, 0, NONE, NONE);
        y.fight(0, NONE, NONE);
        y.laws(2, 0, NONE);
        due(23, "without bonus", y.odds(0, 0), 250000);
        due(23, "with bonus", y.odds(0, 1), 750000);
    }

    private static void wideDay() {
        FairFight x = dayOfThree();
        x.side(0, 2, 2, 2);
        x.laws(4, 0, NONE);
        x.fight(0, 0, 0);
        due(23, "16 slots", x.odds(0, 0) >= 0 ? 1 : 0, 1);
        due(23, "24 slots", x.odds(3, 0), WIDE);
        due(21, "one of them is wide", x.day(), WIDE);
        due(22, "one of them is wide", x.use(), WIDE);
        // too wide without bonus alone, and with it alone
        FairFight y = with(of(0, 20, 1, 7, 0, 9), of(0, 12, 5, 1, 0, 3), of(0, 17, 2, 3, 0, 6),
            of(0, 13, 5, 5, 0, 9));
        FairFight z = with(of(0, 12, 3, 1, 0, 8), of(0, 20, 2, 2, 0, 1), of(1, 8, 3, 1, 0, 8),
            of(0, 14, 4, 5, 0, 6));
        for (FairFight w : new FairFight[] {y, z}) {
            w.side(0, 0, 1, NONE);
            w.fight(2, 3, NONE);
            w.laws(5, 0, NONE);
            w.purse(0, 1);
            due(23, "odds(0, 0)", w.odds(0, 0), w == y ? WIDE : 0);
            due(23, "odds(0, 1)", w.odds(0, 1), w == y ? 14431 : WIDE);
            due(21, "wide with or without", w.day(), WIDE);
            due(22, "wide with or without", w.use(), WIDE);
        }
    }

    private static void wishes() {
        FairFight x = with(of(0, 1, 3, 1, 0, 5), of(0, 1, 0, 1, 0, 0), of(0, 2, 0, 1, 0, 0));
        due(24, "no heroes", x.wish(0, 1), NOT);
        due(24, "bad ahead of not", x.wish(1, 0), BAD);
        x.side(0, 0, NONE, NONE);
        x.laws(1, 0, NONE);
        due(25, "before any wish", x.band(0), BAD);
        // alone 0: 1/2, alone 1: 1/2, alone 2: never in one round; no two of them either
        due(24, "all bands of three", x.wish(0, 1000000), 9);
        int[] bands = {256, 0, 1, 2, 272, 17, 18, 288, 34};
        for (int k = 0; k < bands.length; k++) {
            due(25, "band(" + k + ")", x.band(k), bands[k]);
        }
        due(25, "band(9)", x.band(9), BAD);
        due(25, "band(-1)", x.band(-1), BAD);
        due(24, "from 1/2 to 1/2", x.wish(500000, 500000), 2);
        due(25, "the first", x.band(0), 256);
        due(25, "the second", x.band(1), 272);
        due(25, "no third", x.band(2), BAD);
        due(24, "from a little more", x.wish(500001, 1000000), 0);
        due(25, "none at all", x.band(0), BAD);
        due(24, "to a little less", x.wish(0, 499999), 7);
        due(24, "least below 0", x.wish(-1, 5), BAD);
        due(24, "most above a million", x.wish(0, 1000001), BAD);
        due(24, "least above most", x.wish(500001, 500000), BAD);
        x.tune(0, 1, 9);
        due(25, "the latest that was told stays", x.band(6), 34);
        for (int f = 3; f < 8; f++) {
            x.fighter(0, 1, 0, 1, 0, 0);
        }
        due(24, "fighters 0 to 5 alone", x.wish(0, 1000000), 27);
        due(25, "the last", x.band(26), 85);
        due(25, "behind the last", x.band(27), BAD);
        x.side(0, 0, 0, NONE);
        x.laws(6, 0, NONE);
        due(24, "24 slots do not count", x.wish(0, 1000000), 6);
        due(25, "one alone", x.band(5), 256 + 16 * 5);
        x.side(0, 0, 0, 0);
        due(24, "nothing but wide ones", x.wish(0, 1000000), 0);
        sureWishes();
    }

    /** All hit always or never: each band is surely beaten in three rounds, or never. */
    private static void sureWishes() {
        FairFight x = with(of(0, 2, 6, 1, 0, 9), of(0, 2, 6, 1, 0, 0), of(0, 1, 0, 1, 0, 0),
            of(0, 1, 6, 1, 0, 0), of(0, 4, 0, 1, 0, 0));
        x.side(0, 0, NONE, NONE);
        // a bonus would beat fighter 4, or let a foe of life 2 strike the hero down at once
        x.purse(6, 9);
        int[] sure = {256, 2, 272, 18, 288, 34, 35, 304, 51};
        due(24, "sure ones", x.wish(1000000, 1000000), sure.length);
        for (int k = 0; k < sure.length; k++) {
            due(25, "sure band " + k, x.band(k), sure[k]);
        }
        due(24, "the others", x.wish(0, 0), 20 - sure.length);
    }

    private static void playing() {
        FairFight x = duel();
        due(27, "end before any", x.played(0), 0);
        due(27, "rolls before any", x.played(1), 0);
        due(27, "round before any", x.played(2), 0);
        for (int what = 10; what <= 15; what++) {
            due(27, "life before any", x.played(what), BAD);
        }
        due(26, "no such sheet", x.play(-1), BAD);
        due(26, "no such sheet", x.play(4), BAD);
        due(26, "lost", x.play(3), NULL);
        due(34, "finding", x.count(6), 1);
        rolls(x, 0, 4, 3);
        due(26, "drawn", x.play(0), 2);
        due(27, "end", x.played(0), 2);
        due(27, "rolls", x.played(1), 2);
        due(27, "rounds, if drawn", x.played(2), 1);
        rolls(x, 1, 4, 2);
        due(26, "foes win", x.play(1), 1);
        due(27, "the hero is down", x.played(10), 0);
        due(27, "the foe is not", x.played(13), 1);
        rolls(x, 2, 3);
        due(26, "heroes win by one roll", x.play(2), 0);
        due(27, "one roll", x.played(1), 1);
        rolls(x, 2, 4);
        due(26, "too few items", x.play(2), INDEX);
        due(34, "finding", x.count(6), 2);
        due(27, "the latest that told an end", x.played(1), 1);
        due(27, "its end", x.played(0), 0);
        due(27, "its lives", x.played(13), 0);
        x.tune(0, 2, 6);
        int[] misses = {0, 7, -1, -4, 65537, 256 + 3, LEAST};
        for (int miss : misses) {
            rolls(x, 2, miss, 6);
            due(26, "an item that is not 1 to 6 misses: " + miss, x.play(2), 2);
        }
        x.sheet(0, 0, 2);
        x.put(0, 0, 0, 262);
        due(26, "a byte's lowest bits are 6", x.play(0), 0);
        for (int what : new int[] {-1, 3, 9, 11, 12, 14, 15, 16, LEAST, Integer.MAX_VALUE}) {
            due(27, "played(" + what + ")", x.played(what), BAD);
        }
        x.side(1, NONE, NONE, NONE);
        x.sheet(0, 0, 0);
        due(26, "over at its beginning", x.play(0), 0);
        due(27, "no rolls", x.played(1), 0);
        due(27, "no round", x.played(2), 0);
        due(27, "nobody was there", x.played(13), BAD);
        x.side(0, NONE, NONE, NONE);
        due(26, "nobody at all", x.play(0), 1);
        due(27, "nobody was there any more", x.played(10), BAD);
        // 36 slots: too many ways to reckon, not too many to play
        FairFight y = with(of(0, 20, 1, 1, 0, 0));
        y.side(0, 0, 0, 0);
        y.side(1, 0, 0, 0);
        y.laws(6, 0, NONE);
        y.sheet(0, 1, 36);
        due(26, "36 rolls", y.play(0), 2);
        due(27, "36 rolls", y.played(1), 36);
        due(27, "round 6", y.played(2), 6);
        due(27, "a life at the last seat", y.played(15), 20);
        y.sheet(0, 1, 35);
        due(26, "35 are too few", y.play(0), INDEX);
    }

    private static void sheets() {
        FairFight x = new FairFight();
        due(28, "60 items", x.sheet(0, 2, 60), 60);
        due(28, "no items", x.sheet(1, 1, 0), 0);
        due(28, "61 items", x.sheet(0, 2, 61), BAD);
        due(28, "sheet -1", x.sheet(-1, 0, 1), BAD);
        due(28, "sheet 4", x.sheet(4, 0, -1), BAD);
        due(28, "form -1", x.sheet(0, -1, 1), BAD);
        due(28, "form 3", x.sheet(0, 3, -1), BAD);
        due(34, "bad is no finding", x.count(6), 0);
        due(28, "size", x.sheet(0, 0, -1), SIZE);
        due(34, "finding", x.count(6), 5);
        due(28, "it stays as it was", x.get(0, 2, 59), 0);
        due(30, "put", x.put(0, 2, 59, LEAST + 5), 1);
        due(31, "get", x.get(0, 2, 59), LEAST + 5);
        due(28, "a new row", x.sheet(0, 2, 60), 60);
        due(28, "of zeros", x.get(0, 2, 59), 0);
        x.put(0, 2, 0, 7);
        x.sheet(0, 2, 1);
        due(28, "of zeros", x.get(0, 2, 0), 0);
        x.sheet(0, 2, 60);
        due(29, "lose", x.lose(0), 60);
        due(29, "lose again", x.lose(0), NULL);
        due(29, "lose of no items", x.lose(1), 0);
        due(29, "lose(-1)", x.lose(-1), BAD);
        due(29, "lose(4)", x.lose(4), BAD);
        due(30, "put on a lost one", x.put(0, 2, 0, 1), NULL);
        items();
        copies();
        shakes();
    }

    private static void items() {
        FairFight x = new FairFight();
        for (int form = 0; form <= 2; form++) {
            x.sheet(form, form, 3);
            due(30, "put", x.put(form, form, 2, 0x12348081), 1);
        }
        due(30, "a byte", x.get(0, 0, 2), (byte) 0x81);
        due(30, "a short", x.get(1, 1, 2), (short) 0x8081);
        due(30, "an int", x.get(2, 2, 2), 0x12348081);
        due(31, "the others are 0", x.get(2, 2, 1), 0);
        due(30, "index 3", x.put(0, 0, 3, 1), INDEX);
        due(30, "index -1", x.put(0, 0, -1, 1), INDEX);
        due(30, "cast", x.put(0, 1, 0, 1), CAST);
        due(30, "cast ahead of index", x.put(0, 1, 3, 1), CAST);
        due(30, "null ahead of cast", x.put(3, 1, 3, 1), NULL);
        due(30, "bad sheet", x.put(4, 0, 0, 1), BAD);
        due(30, "bad sheet", x.put(-1, 0, 0, 1), BAD);
        due(30, "bad form", x.put(0, 3, 0, 1), BAD);
        due(30, "bad form ahead of null", x.put(3, -1, 0, 1), BAD);
        due(34, "the latest finding", x.count(6), 1);
        due(31, "index", x.get(0, 0, 3), LEAST);
        due(34, "told by count(6)", x.count(6), 2);
        due(31, "null", x.get(3, 0, 0), LEAST);
        due(34, "told by count(6)", x.count(6), 1);
        due(31, "cast ahead of index", x.get(0, 1, -1), LEAST);
        due(34, "told by count(6)", x.count(6), 3);
        due(31, "bad", x.get(4, 0, 0), LEAST);
        due(31, "bad", x.get(0, 3, 0), LEAST);
        due(34, "bad is no finding", x.count(6), 3);
    }

    private static void copies() {
        FairFight x = new FairFight();
        rolls(x, 0, 1, 2, 3, 4, 5);
        due(32, "onto itself, forward", x.copy(0, 0, 0, 1, 4), 1);
        int[] forward = {1, 1, 2, 3, 4};
        rolls(x, 1, 1, 2, 3, 4, 5);
        due(32, "onto itself, backward", x.copy(1, 2, 1, 0, 3), 1);
        int[] backward = {3, 4, 5, 4, 5};
        for (int i = 0; i < 5; i++) {
            due(32, "as they were", x.get(0, 2, i), forward[i]);
            due(32, "as they were", x.get(1, 2, i), backward[i]);
        }
        due(32, "to another", x.copy(1, 0, 0, 3, 2), 1);
        due(32, "item", x.get(0, 2, 4), 4);
        due(32, "the source stays", x.get(1, 2, 4), 5);
        due(32, "none at the end", x.copy(0, 5, 1, 5, 0), 1);
        int[][] beyond = {{6, 0, 0}, {0, 6, 0}, {-1, 0, 1}, {0, -1, 1}, {0, 0, -1}, {0, 0, 6},
            {1, 0, 5}, {0, 1, 5}, {1, 0, Integer.MAX_VALUE}, {Integer.MAX_VALUE, 0, 1},
            {0, Integer.MAX_VALUE, Integer.MAX_VALUE}, {LEAST, 0, LEAST}};
        for (int[] b : beyond) {
            due(32, "beyond", x.copy(0, b[0], 1, b[1], b[2]), INDEX);
        }
        x.sheet(2, 0, 2);
        due(32, "unlike forms", x.copy(0, 0, 2, 0, 1), STORE);
        due(32, "store ahead of index", x.copy(0, -1, 2, 0, 1), STORE);
        due(32, "lost source", x.copy(3, 0, 0, 0, 1), NULL);
        due(32, "lost target", x.copy(0, 9, 3, 0, 1), NULL);
        due(32, "bad sheets", x.copy(4, 0, 3, 0, 1), BAD);
        due(32, "bad sheets", x.copy(3, 0, -1, 0, 1), BAD);
        due(34, "the latest finding", x.count(6), 1);
    }

    private static void shakes() {
        FairFight x = new FairFight();
        due(33, "null", x.shake(0, 1), NULL);
        due(33, "bad", x.shake(-1, 1), BAD);
        due(33, "bad", x.shake(4, 1), BAD);
        x.sheet(0, 0, 3);
        // of seed 0: 12345, whose upper bits are 0; then 12345 times a and 12345 wraps, upper 54000
        due(33, "shake", x.shake(0, 0), 3);
        int seed = 0;
        for (int i = 0; i < 3; i++) {
            seed = 1103515245 * seed + 12345;
            due(33, "item", x.get(0, 0, i), 1 + (((long) seed & 0xFFFFFFFFL) >> 16) % 6);
        }
        due(33, "item 0", x.get(0, 0, 0), 1);
        x.sheet(1, 2, 0);
        due(33, "no items", x.shake(1, 5), 0);
    }

    private static void counts() {
        FairFight x = dayOfThree();
        x.laws(5, 1, 0);
        x.purse(4, 7);
        x.side(1, 0, 0, NONE);
        int[] counts = {3, 1, 2, 5, 1, 3, 0, 0, 4, 7};
        for (int what = 0; what < counts.length; what++) {
            due(34, "count(" + what + ")", x.count(what), counts[what]);
        }
        due(34, "count(-1)", x.count(-1), BAD);
        due(34, "count(10)", x.count(10), BAD);
    }

    private static long digestByHand(FairFight x) {
        long h = 17;
        for (int what : new int[] {0, 1, 2, 3, 4, 5, 7, 8, 9}) {
            h = 31 * h + x.count(what);
        }
        for (int f = 0; f < x.count(0); f++) {
            for (int what = 0; what <= 5; what++) {
                h = 31 * h + x.about(f, what);
            }
        }
        for (int place = 0; place < 6; place++) {
            h = 31 * h + x.at(place / 3, place % 3);
        }
        for (int what = 0; what <= 2; what++) {
            h = 31 * h + x.played(what);
        }
        return h;
    }

    private static void digests() {
        FairFight x = new FairFight();
        due(35, "digest of a new one", x.digest(), digestByHand(x));
        FairFight y = dayOfThree();
        y.laws(2, 1, 1);
        y.side(1, 0, 1, 1);
        due(35, "digest", y.digest(), digestByHand(y));
        long before = y.digest();
        due(35, "a finding", y.lose(0), NULL);
        due(35, "is not in it", y.digest(), before);
        rolls(y, 0, 1, 2, 3, 4, 5, 6, 1, 2);
        due(35, "nor is a sheet", y.digest(), before);
        y.play(0);
        due(35, "what was played is", y.digest() == before ? 1 : 0, 0);
        due(35, "digest", y.digest(), digestByHand(y));
    }

    public static void main(String[] args) {
        newObject();
        fighters();
        sides();
        laws();
        ways();
        nobody();
        longFights();
        wide();
        fights();
        better();
        without();
        dayFights();
        day();
        wideDay();
        wishes();
        playing();
        sheets();
        counts();
        digests();
        System.out.println(wrong == 0 ? "all " + seen + " answers are as due"
            : wrong + " answers of " + seen + " are not as due");
        if (wrong != 0) {
            System.exit(1);
        }
    }
}
