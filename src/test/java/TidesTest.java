/** Promise 16, and the chapter on tides. */
public final class TidesTest {
    public static void main(String[] args) {
        wrongTides();
        catching();
        torn();
        shoals();
        room();
        firstGoThatHolds();
        sparing();
        splitting();
        hiding();
        tests();
        sums();
        catchNow();
        manyTides();
        Due.end("TidesTest");
    }

    private static void wrongTides() {
        TideLots shore = Due.taught("ground a room 1 fish 50; fisher f mesh 1 net 9 hold 2; go f to a;");
        for (int tides : new int[] {Integer.MIN_VALUE, -1, 0, 61, Integer.MAX_VALUE}) {
            Due.failsAndStays("promise 16: pass(" + tides + ")", IllegalArgumentException.class, shore,
                    () -> shore.pass(tides));
        }
        Due.same("promise 16: pass(1)", shore.pass(1), 2);
        Due.same("promise 16: the tide", shore.count(0), 1);
        shore.pass(60);
        Due.same("promise 16: the tide behind pass(60)", shore.count(0), 61);
    }

    /** One fisher, one ground: what is caught, the fish of the sizes 1 to 5 behind the tide, and the mesh. */
    private static void one(String fish, String fisher, int caught, int mesh, int... left) {
        TideLots shore = Due.taught("ground a room 1 fish " + fish + "; fisher f " + fisher + "; go f to a;");
        String what = "promise 16: " + fisher + " at " + fish;
        Due.same(what, shore.pass(1), caught);
        Due.same(what + " latest", shore.fisher(0, 5), caught);
        Due.same(what + " store", shore.fisher(0, 4), caught);
        Due.same(what + " mesh", shore.fisher(0, 0), mesh);
        for (int size = 1; size <= 5; size++) {
            Due.same(what + " size " + size, shore.ground(0, size), left[size - 1]);
        }
    }

    private static void catching() {
        one("4", "mesh 1 net 99 hold 9", 4, 1, 0, 0, 0, 0, 0);
        one("4", "mesh 2 net 99 hold 9", 0, 2, 4, 0, 0, 0, 0);
        one("1, 1, 1, 1, 1", "mesh 1 net 99 hold 40", 15, 1, 0, 0, 0, 0, 0);
        one("1, 1, 1, 1, 1", "mesh 3 net 99 hold 40", 12, 3, 1, 1, 0, 0, 0);
        one("1, 1, 1, 1, 1", "mesh 1 net 99 hold 3", 12, 1, 1, 1, 0, 0, 0);
        one("1, 1, 1, 1, 1", "mesh 5 net 5 hold 1", 5, 5, 1, 1, 1, 1, 0);
        // The net bears just as much; the hold is full, before the net would tear.
        one("1, 1, 1, 1, 1", "mesh 1 net 15 hold 40", 15, 1, 0, 0, 0, 0, 0);
        one("4", "mesh 1 net 3 hold 3", 3, 1, 1, 0, 0, 0, 0);
        one("0", "mesh 1 net 1 hold 1", 0, 1, 0, 0, 0, 0, 0);
    }

    private static void torn() {
        // Of size 5 none is let go by a mesh that is wider.
        one("0, 0, 0, 0, 4", "mesh 1 net 14 hold 9", 10, 2, 0, 0, 0, 0, 2);
        // All that were caught are smaller than the mesh is now.
        one("4", "mesh 1 net 3 hold 4", 0, 2, 4, 0, 0, 0, 0);
        one("0, 0, 0, 0, 4", "mesh 5 net 14 hold 9", 0, 6, 0, 0, 0, 0, 4);
        one("0, 0, 0, 0, 4", "mesh 5 net 4 hold 9", 0, 6, 0, 0, 0, 0, 4);
        // Some are: one of size 2 is in the ground again, as is the next one.
        one("0, 4, 1", "mesh 2 net 6 hold 9", 3, 3, 0, 4, 0, 0, 0);
        // The catching ends, though a smaller fish could be borne.
        one("2, 2, 1", "mesh 1 net 4 hold 9", 3, 2, 2, 2, 0, 0, 0);
        TideLots shore = Due.taught("ground a room 1 fish 0, 0, 0, 0, 4; fisher f mesh 4 net 4 hold 9; go f to a;");
        Due.same("promise 16: pass(60) with a weak net", shore.pass(60), 0);
        Due.same("promise 16: the mesh is at most 6", shore.fisher(0, 0), 6);
        Due.same("promise 16: tears of a mesh of 6", shore.fisher(0, 7), 2);
        Due.same("promise 16: with a mesh of 6 it still goes", shore.fisher(0, 6), 0);
        Due.same("promise 16: fish that are in the ground again", shore.ground(0, 8), 0);
        TideLots again = Due.taught("ground a room 1 fish 0, 4, 1; fisher f mesh 2 net 6 hold 9; go f to a;");
        again.pass(1);
        Due.same("promise 16: caught in all there", again.ground(0, 8), 1);
        Due.same("promise 16: caught in all by f", again.fisher(0, 9), 1);
        Due.same("promise 16: took", again.took(0, 0), 1);
    }

    private static void shoal(String fish, int... due) {
        TideLots shore = Due.taught("ground a room 1 fish " + fish + ";");
        Due.same("promise 16: pass(1) without fishers", shore.pass(1), 0);
        for (int size = 1; size <= 5; size++) {
            Due.same("promise 16: shoals of " + fish + ", size " + size, shore.ground(0, size), due[size - 1]);
        }
    }

    private static void shoals() {
        shoal("4, 1", 4, 1, 0, 0, 0);
        shoal("5", 4, 1, 0, 0, 0);
        shoal("6", 6, 1, 0, 0, 0);
        shoal("0, 9", 1, 8, 1, 0, 0);
        shoal("0, 0, 10", 1, 0, 8, 2, 0);
        shoal("0, 0, 0, 14", 2, 0, 0, 12, 2);
        shoal("0, 0, 0, 0, 59", 9, 0, 0, 0, 59);
        // From 4 down to 1: what has grown does not grow again.
        shoal("5, 4, 4, 4", 6, 5, 4, 4, 0);
        shoal("99, 99, 99, 99, 99", 99, 99, 99, 99, 99);
        shoal("0, 0, 0, 99, 80", 29, 0, 0, 80, 99);
        shoal("0, 0, 50, 99, 0", 24, 0, 40, 90, 19);
        shoal("95, 90, 95, 99, 0", 99, 91, 94, 99, 19);
    }

    private static void room() {
        String text = "ground a room 1 fish 90; ground b room 2 fish 90; fisher f mesh 1 net 99 hold 1;"
                + "fisher g mesh 1 net 99 hold 2; fisher h mesh 1 net 99 hold 3; fisher i mesh 1 net 99 hold 4;"
                + "go f to a; go g to a; go h to a; go i to a; go f to b; go g to b; go h to b; go i to b;";
        TideLots shore = Due.taught(text);
        for (int tide = 0; tide < 12; tide++) {
            int[] lots = {shore.lot(0), shore.lot(1), shore.lot(2), shore.lot(3)};
            int[] due = {0, 1, 1, -1};
            int[] caught = {shore.fisher(0, 9), shore.fisher(1, 9), shore.fisher(2, 9), shore.fisher(3, 9)};
            shore.pass(1);
            for (int lot = 0; lot < 4; lot++) {
                Due.same("promise 16: the ground of the lot " + lot, shore.fisher(lots[lot], 6), due[lot]);
                Due.same("promise 16: fish for the lot " + lot, shore.fisher(lots[lot], 9) - caught[lots[lot]],
                        lot == 3 ? 0 : lots[lot] + 1);
            }
            Due.same("promise 16: boats at a", shore.ground(0, 7), 1);
            Due.same("promise 16: boats at b", shore.ground(1, 7), 2);
        }
    }

    private static void firstGoThatHolds() {
        TideLots shore = Due.taught("ground a room 1 fish 90; ground b room 1 fish 90; ground c room 1 fish 90;"
                + "fisher g mesh 1 net 1 hold 1; fisher f mesh 1 net 9 hold 4;"
                + "go f to a when tide = 0; go g to c; go f to b when tide < 2; go f to a when tide = 3; go f to b when tide = 3;");
        int[] due = {0, 1, -1, 0, -1};
        for (int tide = 0; tide < due.length; tide++) {
            shore.pass(1);
            Due.same("promise 16: the ground of f in the tide " + tide, shore.fisher(1, 6), due[tide]);
            Due.isTrue("promise 16: a catch of f in the tide " + tide, shore.fisher(1, 5) > 0 == due[tide] >= 0);
            Due.same("promise 16: boats at a", shore.ground(0, 7), due[tide] == 0 ? 1 : 0);
        }
    }

    private static void sparing() {
        String text = "ground a room 8 fish 9, 1; ground b room 8 fish 90; fisher f mesh 1 net 9 hold 1;"
                + "fisher g mesh 1 net 9 hold 1; go f to a; go f to b; go g to a;";
        Due.same("promise 16: as many as the sum", place(text + "pact p of f spare a below 10;", false), 0);
        Due.same("promise 16: fewer than the sum", place(text + "pact p of f spare a below 11;", false), 1);
        Due.same("promise 16: a cheat", place(text + "pact p of f spare a below 11;", true), 0);
        Due.same("promise 16: another ground", place(text + "pact p of f spare b below 99;", false), 0);
        Due.same("promise 16: another fisher", place(text + "pact p of g spare a below 99;", false), 0);
        Due.same("promise 16: of two pacts the second one",
                place(text + "pact p of f spare a below 5; pact q of g, f spare a below 50;", false), 1);
        Due.same("promise 16: both grounds",
                place(text + "pact p of f spare a below 50; pact q of f spare b below 91;", false), -1);
        Due.same("promise 16: a sum below 0", place(text + "pact p of f spare a below -1;", false), 0);
        // g has the first lot, and is the boat, as well as the fish that is missing.
        Due.same("promise 16: boats now", place(text + "pact p of f spare a below 9 + boats a * 2;", false), 1);
        Due.same("promise 16: fish now", place(text + "pact p of f spare a below 10;", false, "go g to a;"), 1);
    }

    /** Where f is behind one tide; without g, if its go is not asked for. */
    private static int place(String text, boolean isCheat, String... kept) {
        boolean isWithG = kept.length > 0 || text.contains("boats");
        TideLots shore = Due.taught(isWithG ? text : text.replace("go g to a;", ""));
        Due.same("promise 16: the first lot", shore.lot(0), 1);
        shore.cheat(0, isCheat);
        shore.pass(1);
        return shore.fisher(0, 6);
    }

    private static void splitting() {
        String text = "ground a room 8 fish 90; fisher f mesh 1 net 99 hold 3; fisher g mesh 1 net 99 hold 5;"
                + "fisher h mesh 1 net 99 hold 9; fisher i mesh 1 net 99 hold 1;"
                + "go f to a; go g to a; go h to a; go i to a;";
        catches(text, 3, 5, 9, 1);
        catches(text + "pact p of f, g, h split;", 7, 5, 5, 1);
        catches(text + "pact p of h, f, g split;", 5, 5, 7, 1);
        catches(text + "pact p of i split;", 3, 5, 9, 1);
        catches(text + "pact p of g, i split; pact q of h, g split;", 3, 6, 6, 3);
        catches(text + "pact q of h, g split; pact p of g, i split;", 3, 4, 7, 4);
        catches(text + "pact p of f, g, h, i spare a below 1;", 3, 5, 9, 1);
        catches(text.replace("go h to a;", "") + "pact p of f, g, h split;", 4, 2, 2, 1);
    }

    private static void catches(String text, int... due) {
        TideLots shore = Due.taught(text);
        int all = 0;
        for (int one : due) {
            all += one;
        }
        Due.same("promise 16: pass(1) of " + text, shore.pass(1), all);
        for (int i = 0; i < due.length; i++) {
            Due.same("promise 16: the catch of " + i + " of " + text, shore.fisher(i, 5), due[i]);
            Due.same("promise 16: the store of " + i + " of " + text, shore.fisher(i, 4), due[i]);
        }
    }

    private static void hiding() {
        TideLots shore = Due.taught("ground a room 8 fish 90; fisher f mesh 1 net 99 hold 3;"
                + "fisher g mesh 1 net 99 hold 5; fisher h mesh 1 net 99 hold 9;"
                + "go f to a; go g to a when tide < 1; go h to a when tide < 1; pact p of f, g, h split; pact q of h, g split;");
        shore.cheat(1, true);
        shore.cheat(2, true);
        Due.same("promise 16: pass(1)", shore.pass(1), 17);
        // p: 3 + 2 + 4 are shown, 3 + 5 hidden: 3, 6 and 8. q: 4 + 3 are shown, 4 + 3 hidden: 8 for h, 6 for g.
        int[] due = {3, 6, 8};
        for (int i = 0; i < 3; i++) {
            Due.same("promise 16: the catch of the fisher " + i, shore.fisher(i, 5), due[i]);
        }
        int[] told = {9, 8, 1};
        int[] toldThen = {7, 7, 1};
        for (int i = 0; i < 3; i++) {
            Due.same("promise 16: pact(0, " + (4 + i) + ")", shore.pact(0, 4 + i), told[i]);
            Due.same("promise 16: pact(1, " + (4 + i) + ")", shore.pact(1, 4 + i), toldThen[i]);
        }
        // Now f alone catches, who is honest: q gets its part of that, and cheats hide it.
        shore.pass(1);
        Due.same("promise 16: pact(0, 6) then", shore.pact(0, 6), 1);
        Due.isTrue("promise 16: pact(1, 6) then", shore.pact(1, 6) == 2);
        // A cheat with 1 shows none of it.
        TideLots one = Due.taught("ground a room 8 fish 9; fisher f mesh 1 net 1 hold 1; fisher g mesh 1 net 1 hold 1;"
                + "go f to a; pact p of f, g split;");
        one.cheat(0, true);
        one.pass(1);
        Due.same("promise 16: half of 1, shown", one.pact(0, 4), 0);
        Due.same("promise 16: half of 1, hidden", one.pact(0, 5), 1);
        Due.same("promise 16: the catch of the cheat", one.fisher(0, 5), 1);
    }

    /** Whether f goes to a in the tide 1, when it has 5 in store and 2 of these from the latest tide. */
    private static boolean holds(String test) {
        TideLots shore = Due.taught("ground b room 8 fish 50; ground a room 8 fish 7, 3; ground c room 8 fish 0;"
                + "fisher f mesh 1 net 99 hold 2; fisher g mesh 4 net 99 hold 5; fisher h mesh 1 net 99 hold 1;"
                + "go f to b when tide = 0; go h to b when tide = 0; go f to a when " + test + ";");
        shore.cheat(2, true);
        shore.pass(1);
        shore.pass(1);
        return shore.fisher(0, 6) == 1;
    }

    private static void yes(String test) {
        Due.isTrue("promise 16: " + test, holds(test));
        Due.isTrue("promise 16: not [" + test + "]", !holds("not [" + test + "]"));
    }

    private static void no(String test) {
        yes("not [" + test + "]");
    }

    private static void tests() {
        yes("1 < 2");
        no("2 < 2");
        no("3 < 2");
        yes("2 > 1");
        no("2 > 2");
        yes("2 = 2");
        no("2 = 3");
        yes("2 <= 2");
        yes("1 <= 2");
        no("3 <= 2");
        yes("2 >= 2");
        yes("3 >= 2");
        no("1 >= 2");
        yes("cheats h");
        no("cheats f");
        yes("not cheats f and cheats h");
        no("cheats f and cheats h");
        yes("cheats f or cheats h");
        no("cheats f or cheats g");
        // and binds more than or, not more than and.
        yes("cheats h or cheats h and cheats f");
        yes("cheats f and cheats f or cheats h");
        no("[cheats h or cheats h] and cheats f");
        no("not cheats f and cheats f");
        yes("not [cheats f and cheats f]");
        no("not cheats h or cheats f");
        no("not not cheats f");
        yes("tide = 1");
        yes("store f = 2 and store g = 0 and store h = 1");
        yes("catch f = 2 and catch g = 0");
        yes("mesh f = 1 and mesh g = 4");
        yes("fish a = 11 and fish c = 0");
        yes("boats a = 0 and boats b = 0");
    }

    private static void sums() {
        yes("7 - 2 - 1 = 4");
        yes("2 + 3 * 4 = 14");
        yes("(2 + 3) * 4 = 20");
        yes("20 / 2 / 5 = 2");
        yes("20 / 2 * 5 = 50");
        yes("7 / 2 = 3");
        yes("-7 / 2 = -3");
        yes("7 / -2 = -3");
        yes("7 / 0 = 0");
        yes("-7 / (1 - 1) = 0");
        yes("- - 3 = 3");
        yes("2 - -3 = 5");
        yes("-2 * 3 + 10 = 4");
        yes("min(2, 3) = 2 and min(3, 2) = 2 and min(-1, 1) = -1");
        yes("max(2, 3) = 3 and max(3, 2) = 3 and max(-1, 1) = 1");
        yes("65536 * 32768 < 0");
        yes("65536 * 32768 - 1 > 0");
        yes("65536 * 65536 = 0");
        yes("65536 * 32768 / -1 = 65536 * 32768");
        yes("-(65536 * 32768) = 65536 * 32768");
        yes("65536 * 32768 / 32768 = -65536");
        yes("999999 * 999999 = -729379 * 1000 - 967");
        yes("65535 * 32768 + 32767 + 1 < 0");
    }

    private static void catchNow() {
        // The lots are 1, 2, 0 in the tide 0: h sees what g has caught in this tide, and not yet f's.
        TideLots shore = Due.taught("ground a room 8 fish 90; fisher f mesh 1 net 99 hold 3;"
                + "fisher g mesh 1 net 99 hold 5; fisher h mesh 1 net 99 hold 9; go f to a; go g to a;"
                + "go h to a when catch g = 5 and catch f = 0 and catch h = 0 and boats a = 1 and fish a = 85 and store g = 0;");
        shore.pass(1);
        Due.same("promise 16: the ground of h", shore.fisher(2, 6), 0);
        // The catch of one who stays at home is 0 at once, and that of one whose turn is not yet, of the latest tide.
        TideLots home = Due.taught("ground a room 8 fish 90; fisher f mesh 1 net 99 hold 3; fisher g mesh 1 net 99 hold 3;"
                + "go f to a when tide = 0; go g to a when tide = 0; go f to a when catch g = 0; go g to a when catch f = 0;");
        home.pass(1);
        int first = home.lot(0);
        home.pass(1);
        Due.same("promise 16: the first one sees the latest catch", home.fisher(first, 6), -1);
        Due.same("promise 16: the second one sees the catch of now", home.fisher(1 - first, 6), 0);
        // The mesh of a net that tore is seen at once.
        TideLots torn = Due.taught("ground a room 8 fish 90; fisher f mesh 1 net 99 hold 3; fisher g mesh 1 net 2 hold 3;"
                + "go g to a; go f to a when mesh g = 2 and catch g = 0;");
        Due.same("promise 16: the first lot", torn.lot(0), 1);
        torn.pass(1);
        Due.same("promise 16: the ground of f", torn.fisher(0, 6), 0);
    }

    private static void manyTides() {
        String text = "ground a room 1 fish 60, 30, 20; ground b room 2 fish 40, 9; fisher f mesh 1 net 30 hold 9;"
                + "fisher g mesh 2 net 12 hold 5; fisher h mesh 1 net 40 hold 6; go f to a; go g to a; go h to a;"
                + "go f to b; go g to b when tide / 2 * 2 = tide; go h to b; pact p of f, g, h split;"
                + "pact q of h, f spare b below 30;";
        TideLots one = Due.taught(text);
        TideLots other = Due.taught(text);
        int sum = 0;
        for (int i = 0; i < 30; i++) {
            sum += one.pass(1);
        }
        Due.same("promise 16: pass(30)", other.pass(30), sum);
        Due.same("promise 16: all stores", other.count(6), sum);
        Due.same("promise 16: the digest", other.digest(), one.digest());
    }
}
