/** Promises 7 to 15: grounds, fishers, pacts. */
public final class ShoreTest {
    private static final Class<IndexOutOfBoundsException> INDEX = IndexOutOfBoundsException.class;
    private static final int[] FAR = {Integer.MIN_VALUE, -1, 12, Integer.MAX_VALUE};

    public static void main(String[] args) {
        ground();
        fisher();
        pact();
        cheat();
        mend();
        lot();
        took();
        gap();
        noShore();
        Due.end("ShoreTest");
    }

    /** f tears in the first tide, g takes the fish of size 1; what the lots are does not matter. */
    private static TideLots example() {
        return Due.taught("ground a room 3 fish 2, 4, 3; ground b room 1 fish 5, 0, 0, 0, 9; ground c room 8 fish 0;"
                + "fisher f mesh 2 net 11 hold 40; fisher g mesh 1 net 99 hold 3; fisher h mesh 5 net 1 hold 1;"
                + "go f to a; go g to b; go h to c when tide > 0;"
                + "pact p of g, f split; pact q of h, g, f spare c below 1; pact r of h split;");
    }

    private static void same(String what, int[] got, int... due) {
        Due.same("numbers of " + what, got.length, due.length);
        for (int i = 0; i < due.length; i++) {
            Due.same(what + " " + i, got[i], due[i]);
        }
    }

    private static int[] ground(TideLots shore, int ground) {
        int[] told = new int[9];
        for (int what = 0; what < told.length; what++) {
            told[what] = shore.ground(ground, what);
        }
        return told;
    }

    private static int[] fisher(TideLots shore, int fisher) {
        int[] told = new int[10];
        for (int what = 0; what < told.length; what++) {
            told[what] = shore.fisher(fisher, what);
        }
        return told;
    }

    private static int[] pact(TideLots shore, int pact) {
        int[] told = new int[7];
        for (int what = 0; what < told.length; what++) {
            told[what] = shore.pact(pact, what);
        }
        return told;
    }

    private static void ground() {
        TideLots shore = example();
        same("promise 7: a", ground(shore, 0), 9, 2, 4, 3, 0, 0, 3, 0, 0);
        same("promise 7: b", ground(shore, 1), 14, 5, 0, 0, 0, 9, 1, 0, 0);
        same("promise 7: c", ground(shore, 2), 0, 0, 0, 0, 0, 0, 8, 0, 0);
        shore.pass(1);
        // f caught three of size 3 and one of size 2, and tore: this one is in the ground again.
        // Shoals at a: 2, 4; then one young. At b, 5 and 6 of size 5 are left: one grows, and one young comes.
        same("promise 7: a then", ground(shore, 0), 7, 3, 4, 0, 0, 0, 3, 1, 3);
        same("promise 7: b then", ground(shore, 1), 12, 5, 1, 0, 0, 6, 1, 1, 3);
        same("promise 7: c then", ground(shore, 2), 0, 0, 0, 0, 0, 0, 8, 0, 0);
        for (int far : FAR) {
            Due.failsAndStays("promise 7: ground(" + far + ", 0)", INDEX, shore, () -> shore.ground(far, 0));
            Due.failsAndStays("promise 7: ground(0, " + far + ")", INDEX, shore, () -> shore.ground(0, far));
        }
        Due.fails("promise 7: ground(3, 0)", INDEX, () -> shore.ground(3, 0));
        Due.fails("promise 7: ground(2, 9)", INDEX, () -> shore.ground(2, 9));
    }

    private static void fisher() {
        TideLots shore = example();
        same("promise 8: f", fisher(shore, 0), 2, 2, 11, 40, 0, 0, -1, 0, 0, 0);
        same("promise 8: g", fisher(shore, 1), 1, 1, 99, 3, 0, 0, -1, 0, 0, 0);
        same("promise 8: h", fisher(shore, 2), 5, 5, 1, 1, 0, 0, -1, 0, 0, 0);
        shore.cheat(1, true);
        shore.pass(1);
        // f has 9, g has 15 and shows 7: 16 are shown, 8 for each one, and 8 were hidden.
        same("promise 8: f then", fisher(shore, 0), 3, 2, 11, 40, 8, 8, 0, 1, 0, 3);
        same("promise 8: g then", fisher(shore, 1), 1, 1, 99, 3, 16, 16, 1, 0, 1, 3);
        same("promise 8: h then", fisher(shore, 2), 5, 5, 1, 1, 0, 0, -1, 0, 0, 0);
        for (int far : FAR) {
            Due.failsAndStays("promise 8: fisher(" + far + ", 0)", INDEX, shore, () -> shore.fisher(far, 0));
            Due.failsAndStays("promise 8: fisher(0, " + far + ")", INDEX, shore, () -> shore.fisher(0, far));
        }
        Due.fails("promise 8: fisher(3, 0)", INDEX, () -> shore.fisher(3, 0));
        Due.fails("promise 8: fisher(2, 10)", INDEX, () -> shore.fisher(2, 10));
    }

    private static void pact() {
        TideLots shore = example();
        same("promise 9: p", pact(shore, 0), 0, -1, 2, 1, 0, 0, 0);
        same("promise 9: q", pact(shore, 1), 1, 2, 3, 2, 0, 0, 0);
        same("promise 9: r", pact(shore, 2), 0, -1, 1, 2, 0, 0, 0);
        shore.cheat(1, true);
        shore.pass(1);
        same("promise 9: p then", pact(shore, 0), 0, -1, 2, 1, 16, 8, 1);
        same("promise 9: q then", pact(shore, 1), 1, 2, 3, 2, 0, 0, 0);
        same("promise 9: r then", pact(shore, 2), 0, -1, 1, 2, 0, 0, 0);
        shore.cheat(1, false);
        shore.pass(1);
        // f takes the fish of size 3 that there are none of, g again 15: nothing is hidden.
        same("promise 9: p at last", pact(shore, 0), 0, -1, 2, 1, 31, 8, 1);
        for (int far : FAR) {
            Due.failsAndStays("promise 9: pact(" + far + ", 0)", INDEX, shore, () -> shore.pact(far, 0));
            Due.failsAndStays("promise 9: pact(0, " + far + ")", INDEX, shore, () -> shore.pact(0, far));
        }
        Due.fails("promise 9: pact(3, 0)", INDEX, () -> shore.pact(3, 0));
        Due.fails("promise 9: pact(2, 7)", INDEX, () -> shore.pact(2, 7));
    }

    private static void cheat() {
        TideLots shore = example();
        Due.same("promise 10: cheat(0, false)", shore.cheat(0, false), 0);
        Due.same("promise 10: cheat(0, true)", shore.cheat(0, true), 1);
        Due.same("promise 10: cheat(2, true)", shore.cheat(2, true), 2);
        Due.same("promise 10: cheat(2, true) again", shore.cheat(2, true), 2);
        Due.same("promise 10: fisher(0, 8)", shore.fisher(0, 8), 1);
        Due.same("promise 10: fisher(1, 8)", shore.fisher(1, 8), 0);
        Due.same("promise 10: cheat(0, false)", shore.cheat(0, false), 1);
        Due.same("promise 10: fisher(0, 8) then", shore.fisher(0, 8), 0);
        Due.same("promise 10: count(8)", shore.count(8), 1);
        shore.pass(2);
        // A cheat goes to a ground that is spared.
        Due.same("promise 10: fisher(2, 6)", shore.fisher(2, 6), 2);
        Due.fails("promise 10: cheat(3, true)", INDEX, () -> shore.cheat(3, true));
        for (int far : FAR) {
            Due.failsAndStays("promise 10: cheat(" + far + ", true)", INDEX, shore, () -> shore.cheat(far, true));
        }
    }

    private static void mend() {
        Class<IllegalStateException> state = IllegalStateException.class;
        TideLots shore = Due.taught("ground a room 3 fish 0, 0, 1, 0, 9; fisher f mesh 1 net 8 hold 40;"
                + "fisher g mesh 1 net 2 hold 40; fisher h mesh 1 net 9 hold 1; go f to a; go g to a;");
        Due.failsAndStays("promise 11: mend of a whole net", state, shore, () -> shore.mend(0));
        shore.pass(1);
        // f takes one of size 5, and the next one tears the net; g tears with nothing in it.
        Due.same("promise 11: the mesh of f", shore.fisher(0, 0), 2);
        Due.same("promise 11: the mesh of g", shore.fisher(1, 0), 2);
        Due.failsAndStays("promise 11: mend without 3 in store", state, shore, () -> shore.mend(1));
        Due.same("promise 11: mend", shore.mend(0), 2);
        Due.same("promise 11: the mesh of f then", shore.fisher(0, 0), 1);
        Due.same("promise 11: the store of f then", shore.fisher(0, 4), 2);
        Due.same("promise 11: the tears of f stay", shore.fisher(0, 7), 1);
        Due.failsAndStays("promise 11: mend again", state, shore, () -> shore.mend(0));
        Due.fails("promise 11: mend(3)", INDEX, () -> shore.mend(3));
        for (int far : FAR) {
            Due.failsAndStays("promise 11: mend(" + far + ")", INDEX, shore, () -> shore.mend(far));
        }
        TideLots just = Due.taught("ground a room 1 fish 0, 0, 9; fisher f mesh 2 net 4 hold 9; go f to a;");
        just.pass(1);
        Due.same("promise 11: mend with just 3 in store", just.mend(0), 0);
        just.pass(3);
        // In each of these a fish of size 4 is caught; in the first two the next one of size 3 tears the net.
        Due.same("promise 11: the mesh of f behind two tears", just.fisher(0, 0), 4);
        Due.same("promise 11: mend of two tears", just.mend(0), 9);
        Due.same("promise 11: the mesh as it was told", just.fisher(0, 0), 2);
    }

    private static void lot() {
        TideLots shore = example();
        // l: 69070 (by 65536: 1), 475628535 (7257), 3277404108 (50009)
        same("promise 12: lots", new int[] {shore.lot(0), shore.lot(1), shore.lot(2)}, 1, 2, 0);
        Due.same("promise 12: lot(0) again", shore.lot(0), 1);
        long digest = shore.digest();
        shore.lot(2);
        Due.same("promise 12: the digest stays", shore.digest(), digest);
        // What is drawn, is drawn among so many: 3, 2 and 1 for the first tide, and so on.
        long l = 1;
        for (int tide = 0; tide < 20; tide++) {
            java.util.List<Integer> row = new java.util.ArrayList<>(java.util.List.of(0, 1, 2));
            for (int lot = 0; lot < 3; lot++) {
                l = (l * 69069 + 1) % 4294967296L;
                int due = row.remove((int) (l / 65536 % row.size()));
                Due.same("promise 12: lot(" + lot + ") at the tide " + tide, shore.lot(lot), due);
            }
            shore.pass(1);
        }
        Due.fails("promise 12: lot(3)", INDEX, () -> shore.lot(3));
        for (int far : FAR) {
            Due.failsAndStays("promise 12: lot(" + far + ")", INDEX, shore, () -> shore.lot(far));
        }
    }

    private static void took() {
        TideLots shore = Due.taught("ground a room 8 fish 90; ground b room 8 fish 90; ground c room 8 fish 90;"
                + "fisher f mesh 1 net 99 hold 2; fisher g mesh 1 net 99 hold 5; fisher h mesh 1 net 99 hold 5;"
                + "go f to a; go g to b when tide < 1; go h to b; go g to a;");
        for (int ground = 0; ground < 3; ground++) {
            Due.same("promise 14: blame(" + ground + ") at first", shore.blame(ground), -1);
        }
        shore.pass(1);
        same("promise 13: took at b", new int[] {shore.took(1, 0), shore.took(1, 1), shore.took(1, 2)}, 0, 5, 5);
        Due.same("promise 14: of several the smallest number", shore.blame(1), 1);
        Due.same("promise 14: blame(0)", shore.blame(0), 0);
        shore.pass(2);
        same("promise 13: took at a", new int[] {shore.took(0, 0), shore.took(0, 1), shore.took(0, 2)}, 6, 10, 0);
        same("promise 13: took at b then", new int[] {shore.took(1, 0), shore.took(1, 1), shore.took(1, 2)}, 0, 5, 15);
        same("promise 13: took at c", new int[] {shore.took(2, 0), shore.took(2, 1), shore.took(2, 2)}, 0, 0, 0);
        same("promise 14: blame", new int[] {shore.blame(0), shore.blame(1), shore.blame(2)}, 1, 2, -1);
        Due.fails("promise 13: took(3, 0)", INDEX, () -> shore.took(3, 0));
        Due.fails("promise 13: took(0, 3)", INDEX, () -> shore.took(0, 3));
        Due.fails("promise 14: blame(3)", INDEX, () -> shore.blame(3));
        for (int far : FAR) {
            Due.failsAndStays("promise 13: took(" + far + ", 0)", INDEX, shore, () -> shore.took(far, 0));
            Due.failsAndStays("promise 13: took(0, " + far + ")", INDEX, shore, () -> shore.took(0, far));
            Due.failsAndStays("promise 14: blame(" + far + ")", INDEX, shore, () -> shore.blame(far));
        }
    }

    private static void gap() {
        TideLots shore = example();
        Due.same("promise 15: gap() at first", shore.gap(), 0);
        shore.cheat(1, true);
        shore.pass(1);
        Due.same("promise 15: gap()", shore.gap(), 16);
        TideLots one = Due.taught("ground a room 1 fish 9; fisher f mesh 1 net 9 hold 9; go f to a;");
        one.pass(1);
        Due.same("promise 15: gap() of one", one.gap(), 0);
        TideLots all = Due.taught("ground a room 8 fish 90; fisher f mesh 1 net 99 hold 7; fisher g mesh 1 net 99 hold 2;"
                + "fisher h mesh 1 net 99 hold 9; fisher i mesh 1 net 99 hold 4;"
                + "go f to a; go g to a; go h to a; go i to a;");
        all.pass(1);
        Due.same("promise 15: gap() of four", all.gap(), 7);
    }

    private static void noShore() {
        TideLots shore = new TideLots();
        Due.fails("promise 7: ground(0, 0) of none", INDEX, () -> shore.ground(0, 0));
        Due.fails("promise 8: fisher(0, 0) of none", INDEX, () -> shore.fisher(0, 0));
        Due.fails("promise 9: pact(0, 0) of none", INDEX, () -> shore.pact(0, 0));
        Due.fails("promise 10: cheat(0, true) of none", INDEX, () -> shore.cheat(0, true));
        Due.fails("promise 11: mend(0) of none", INDEX, () -> shore.mend(0));
        Due.fails("promise 12: lot(0) of none", INDEX, () -> shore.lot(0));
        Due.fails("promise 13: took(0, 0) of none", INDEX, () -> shore.took(0, 0));
        Due.fails("promise 14: blame(0) of none", INDEX, () -> shore.blame(0));
    }
}
