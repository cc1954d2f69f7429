/** Promises 17 to 22: looking ahead. */
public final class AheadTest {
    private static final Class<IndexOutOfBoundsException> INDEX = IndexOutOfBoundsException.class;
    private static final Class<IllegalArgumentException> ARGUMENT = IllegalArgumentException.class;
    private static final int[] FAR = {Integer.MIN_VALUE, -1, 12, Integer.MAX_VALUE};
    private static final int[] NO_TIDES = {Integer.MIN_VALUE, -1, 0, 61, Integer.MAX_VALUE};
    private static final String TEXT = "ground a room 1 fish 60, 30, 20; ground b room 2 fish 40, 9;"
            + "fisher f mesh 1 net 30 hold 9; fisher g mesh 2 net 12 hold 5; fisher h mesh 1 net 40 hold 6;"
            + "go f to a; go g to a when not cheats f; go h to a; go f to b; go g to b; go h to b;"
            + "pact p of f, g, h split; pact q of h, f spare b below 30;";

    public static void main(String[] args) {
        foresee();
        pays();
        empty();
        advise();
        mean();
        digest();
        noShore();
        Due.end("AheadTest");
    }

    private static TideLots example() {
        TideLots shore = Due.taught(TEXT);
        shore.pass(3);
        shore.cheat(1, true);
        return shore;
    }

    private static void foresee() {
        for (int tides : new int[] {1, 2, 17, 60}) {
            TideLots shore = example();
            long digest = shore.digest();
            int stores = shore.foresee(tides, 0);
            int fish = shore.foresee(tides, 1);
            int gap = shore.foresee(tides, 2);
            Due.same("promise 17: the digest stays", shore.digest(), digest);
            Due.same("promise 17: again", shore.foresee(tides, 0), stores);
            shore.pass(tides);
            Due.same("promise 17: foresee(" + tides + ", 0)", stores, shore.count(6));
            Due.same("promise 17: foresee(" + tides + ", 1)", fish, shore.count(5));
            Due.same("promise 17: foresee(" + tides + ", 2)", gap, shore.gap());
        }
        TideLots shore = example();
        for (int tides : NO_TIDES) {
            Due.failsAndStays("promise 17: foresee(" + tides + ", 0)", ARGUMENT, shore, () -> shore.foresee(tides, 0));
            Due.fails("promise 17: foresee(" + tides + ", 3)", ARGUMENT, () -> shore.foresee(tides, 3));
        }
        Due.fails("promise 17: foresee(1, 3)", INDEX, () -> shore.foresee(1, 3));
        for (int far : FAR) {
            Due.failsAndStays("promise 17: foresee(60, " + far + ")", INDEX, shore, () -> shore.foresee(60, far));
        }
    }

    private static void pays() {
        for (int fisher = 0; fisher < 3; fisher++) {
            for (int tides : new int[] {1, 9, 60}) {
                TideLots shore = example();
                long digest = shore.digest();
                int pays = shore.pays(fisher, tides);
                Due.same("promise 18: the digest stays", shore.digest(), digest);
                TideLots asCheat = example();
                asCheat.cheat(fisher, true);
                asCheat.pass(tides);
                shore.cheat(fisher, false);
                shore.pass(tides);
                Due.same("promise 18: pays(" + fisher + ", " + tides + ")", pays,
                        asCheat.fisher(fisher, 4) - shore.fisher(fisher, 4));
            }
        }
        // The cheat keeps 5 of 9, and has 2 of what is shown: 7 in the place of 4 and 1 that is left over.
        TideLots two = Due.taught("ground a room 1 fish 50; fisher f mesh 1 net 9 hold 9; fisher g mesh 1 net 9 hold 1;"
                + "go f to a; pact p of f, g split;");
        Due.same("promise 18: it pays", two.pays(0, 1), 2);
        two.cheat(0, true);
        Due.same("promise 18: it pays for a cheat, too", two.pays(0, 1), 2);
        Due.same("promise 18: the cheat stays one", two.fisher(0, 8), 1);
        Due.same("promise 18: it does not pay", two.pays(1, 1), 0);
        TideLots shore = example();
        for (int tides : NO_TIDES) {
            Due.failsAndStays("promise 18: pays(0, " + tides + ")", ARGUMENT, shore, () -> shore.pays(0, tides));
            Due.fails("promise 18: pays(3, " + tides + ")", INDEX, () -> shore.pays(3, tides));
        }
        for (int far : FAR) {
            Due.failsAndStays("promise 18: pays(" + far + ", 1)", INDEX, shore, () -> shore.pays(far, 1));
        }
    }

    private static void empty() {
        TideLots shore = Due.taught("ground a room 1 fish 0; ground b room 1 fish 4; ground c room 1 fish 4;"
                + "ground d room 1 fish 4; fisher f mesh 1 net 9 hold 1; fisher g mesh 1 net 9 hold 1;"
                + "fisher h mesh 1 net 9 hold 4; fisher i mesh 1 net 9 hold 4;"
                + "go f to b; go h to c when tide >= 99; go i to d when tide >= 100;");
        int[] due = {0, 4, 100, -1};
        long digest = shore.digest();
        for (int ground = 0; ground < due.length; ground++) {
            Due.same("promise 19: empty(" + ground + ")", shore.empty(ground), due[ground]);
        }
        Due.same("promise 19: the digest stays", shore.digest(), digest);
        shore.pass(1);
        int[] dueThen = {0, 3, 99, 100};
        for (int ground = 0; ground < dueThen.length; ground++) {
            Due.same("promise 19: empty(" + ground + ") then", shore.empty(ground), dueThen[ground]);
        }
        Due.fails("promise 19: empty(4)", INDEX, () -> shore.empty(4));
        for (int far : FAR) {
            Due.failsAndStays("promise 19: empty(" + far + ")", INDEX, shore, () -> shore.empty(far));
        }
    }

    private static void advise() {
        String grounds = "ground a room 1 fish 9, 9, 9, 3, 2; ground b room 1 fish 0;";
        TideLots shore = Due.taught(grounds + "fisher f mesh 2 net 12 hold 40; fisher g mesh 3 net 9 hold 9;"
                + "go f to a; go g to b;");
        long digest = shore.digest();
        Due.same("promise 20: of several the least", shore.advise(0, 1), 1);
        Due.same("promise 20: of nothing the least", shore.advise(1, 40), 1);
        Due.same("promise 20: the digest stays", shore.digest(), digest);
        for (int mesh = 1; mesh <= 5; mesh++) {
            TideLots one = Due.taught(grounds + "fisher f mesh 3 net 12 hold 40; go f to a when mesh f = " + mesh + ";");
            Due.same("promise 20: one mesh alone is of use", one.advise(0, 1), mesh);
        }
        // Whoever takes small fish today has a torn net tomorrow.
        adviseAsToldMesh("ground a room 1 fish 99; ground b room 1 fish 99, 40, 0, 0, 9;", "net 9 hold 20; go f to b;");
        adviseAsToldMesh("ground a room 1 fish 30, 0, 9, 3;", "net 13 hold 40; go f to a;");
        adviseAsToldMesh("ground a room 1 fish 99, 99, 30;", "net 20 hold 30; go f to a;");
        TideLots shoreThen = example();
        for (int tides : new int[] {Integer.MIN_VALUE, -1, 0, 41, 60, Integer.MAX_VALUE}) {
            Due.failsAndStays("promise 20: advise(0, " + tides + ")", ARGUMENT, shoreThen,
                    () -> shoreThen.advise(0, tides));
            Due.fails("promise 20: advise(3, " + tides + ")", INDEX, () -> shoreThen.advise(3, tides));
        }
        for (int far : FAR) {
            Due.failsAndStays("promise 20: advise(" + far + ", 1)", INDEX, shoreThen, () -> shoreThen.advise(far, 1));
        }
    }

    /** The same is due by objects that are told the mesh: at first, the net has it from now on, too. */
    private static void adviseAsToldMesh(String grounds, String rest) {
        for (int tides = 1; tides <= 40; tides += 3) {
            int best = 0;
            int most = -1;
            for (int mesh = 1; mesh <= 5; mesh++) {
                int income = Due.taught(grounds + "fisher f mesh " + mesh + " " + rest).pass(tides);
                if (income > most) {
                    most = income;
                    best = mesh;
                }
            }
            TideLots shore = Due.taught(grounds + "fisher f mesh 4 " + rest);
            Due.same("promise 20: advise(0, " + tides + ") of " + rest, shore.advise(0, tides), best);
        }
    }

    private static void mean() {
        Due.same("promise 21: mean() of none", new TideLots().mean(), 0.0);
        TideLots shore = Due.taught("ground a room 1 fish 9; fisher f mesh 1 net 9 hold 4; fisher g mesh 1 net 9 hold 4;"
                + "fisher h mesh 1 net 9 hold 4; go f to a;");
        Due.same("promise 21: mean() at first", shore.mean(), 0.0);
        shore.pass(1);
        Due.same("promise 21: mean() of 4 and three fishers", shore.mean(), 4.0 / 3.0);
    }

    private static void digest() {
        long d = 739;
        for (int i = 0; i < 10; i++) {
            d *= 31;
        }
        Due.same("promise 22: digest() of a new object", new TideLots().digest(), d);
        TideLots shore = example();
        Due.write(shore, "abc");
        Due.same("promise 22: digest()", shore.digest(), summed(shore));
        Due.same("promise 22: digest() changes nothing", shore.digest(), summed(shore));
        shore.cheat(0, true);
        shore.pass(5);
        Due.same("promise 22: digest() then", shore.digest(), summed(shore));
        TideLots home = Due.taught("fisher f mesh 1 net 1 hold 1; fisher g mesh 1 net 1 hold 1; pact p of g split;");
        Due.same("promise 22: digest() with -1 in it", home.digest(), summed(home));
    }

    private static long summed(TideLots shore) {
        long d = 739;
        for (int what = 0; what <= 9; what++) {
            d = d * 31 + shore.count(what);
        }
        for (int ground = 0; ground < shore.count(1); ground++) {
            for (int what = 0; what <= 8; what++) {
                d = d * 31 + shore.ground(ground, what);
            }
            for (int fisher = 0; fisher < shore.count(2); fisher++) {
                d = d * 31 + shore.took(ground, fisher);
            }
        }
        for (int fisher = 0; fisher < shore.count(2); fisher++) {
            for (int what = 0; what <= 9; what++) {
                d = d * 31 + shore.fisher(fisher, what);
            }
        }
        for (int pact = 0; pact < shore.count(4); pact++) {
            for (int what = 0; what <= 6; what++) {
                d = d * 31 + shore.pact(pact, what);
            }
        }
        for (int lot = 0; lot < shore.count(2); lot++) {
            d = d * 31 + shore.lot(lot);
        }
        return d;
    }

    private static void noShore() {
        TideLots shore = new TideLots();
        Due.same("promise 17: foresee(60, 0) of none", shore.foresee(60, 0), 0);
        Due.same("promise 17: foresee(1, 1) of none", shore.foresee(1, 1), 0);
        Due.same("promise 17: foresee(1, 2) of none", shore.foresee(1, 2), 0);
        Due.fails("promise 18: pays(0, 1) of none", INDEX, () -> shore.pays(0, 1));
        Due.fails("promise 19: empty(0) of none", INDEX, () -> shore.empty(0));
        Due.fails("promise 20: advise(0, 1) of none", INDEX, () -> shore.advise(0, 1));
    }
}
