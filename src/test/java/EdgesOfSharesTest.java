/** The edges that the chapter "2. Tides" names, from the pacts that split up to the next tide, each with its sentence. */
public final class EdgesOfSharesTest {
    private static final String CHAPTER = "2. Tides";
    private static final String PACTS = "Pacts that split, by numbers: each fisher in it shows what is caught; "
            + "a cheat half of it, cut, and hides the rest.";
    private static final String SHARES = "All that is shown is added; each one gets as many as all that, divided by how many "
            + "they are (cut), and the one who is told first what is left over, too: what is caught in this tide is that "
            + "then, and what was hidden.";

    /** Fish for a mesh of 5: those that come and grow are too small for it, for many tides. */
    private static final String FIVES = "ground a room 8 fish 0, 0, 0, 0, 99;";

    public static void main(String[] args) {
        sharesAreCut();
        leftOver();
        manyInAPact();
        cheatsShowHalf();
        shownAndHidden();
        pactsByNumbers();
        hiddenAheadOfTheNextPact();
        storesComeLast();
        aFifthGrows();
        ninetyNineAtMost();
        aSixthComes();
        whatHasGrownDoesNotGrowAgain();
        shoalsEverywhere();
        theNextTide();
        Due.end("EdgesOfSharesTest");
    }

    /** The fishers n1, n2 and so on catch so many fish of the size 1 in the first tide; who has a ! is a cheat. */
    private static TideLots caught(String pacts, String catches) {
        StringBuilder text = new StringBuilder("ground a room 8 fish 99;");
        String[] each = catches.split(" ");
        for (int i = 0; i < each.length; i++) {
            int hold = Integer.parseInt(each[i].replace("!", ""));
            text.append("fisher n").append(i + 1).append(" mesh 1 net 99 hold ").append(Math.max(hold, 1)).append(';');
            if (hold > 0) {
                text.append("go n").append(i + 1).append(" to a;");
            }
        }
        TideLots shore = Due.taught(text + pacts);
        for (int i = 0; i < each.length; i++) {
            shore.cheat(i, each[i].endsWith("!"));
        }
        return shore;
    }

    private static TideLots split(String pacts, String catches, int... due) {
        TideLots shore = caught(pacts, catches);
        int all = 0;
        for (int one : due) {
            all += one;
        }
        String what = catches + " with " + pacts + ": ";
        Due.same(what + "pass(1)", shore.pass(1), all);
        for (int i = 0; i < due.length; i++) {
            Due.same(what + "the catch of n" + (i + 1), shore.fisher(i, 5), due[i]);
            Due.same(what + "the store of n" + (i + 1), shore.fisher(i, 4), due[i]);
        }
        return shore;
    }

    private static void pact(String what, TideLots shore, int pact, int shown, int hidden, int tides) {
        Due.same(what + ": shown in the pact " + pact, shore.pact(pact, 4), shown);
        Due.same(what + ": hidden in the pact " + pact, shore.pact(pact, 5), hidden);
        Due.same(what + ": tides of hiding in the pact " + pact, shore.pact(pact, 6), tides);
    }

    private static void sharesAreCut() {
        Due.sentence(CHAPTER, SHARES);
        String two = "pact p of n1, n2 split;";
        split(two, "0 0", 0, 0);
        split(two, "1 0", 1, 0);
        split(two, "0 1", 1, 0);
        split(two, "2 0", 1, 1);
        split(two, "0 2", 1, 1);
        split(two, "3 0", 2, 1);
        split(two, "1 2", 2, 1);
        split(two, "4 3", 4, 3);
        split(two, "3 4", 4, 3);
        split("pact p of n1 split;", "5 2", 5, 2);
        split("pact p of n2 split;", "0 0", 0, 0);
        split("", "5 2", 5, 2);
        // Who is not in it keeps the own catch.
        split(two, "5 2 9", 4, 3, 9);
        split("pact p of n1, n3 split;", "5 2 9", 7, 2, 7);
    }

    private static void leftOver() {
        Due.sentence(CHAPTER, SHARES);
        String three = "pact p of n1, n2, n3 split;";
        split(three, "1 0 0", 1, 0, 0);
        split(three, "0 0 2", 2, 0, 0);
        split(three, "0 0 3", 1, 1, 1);
        split(three, "0 4 0", 2, 1, 1);
        split(three, "0 4 1", 3, 1, 1);
        split(three, "2 2 2", 2, 2, 2);
        // Told first in this pact, whatever the number.
        split("pact p of n3, n1, n2 split;", "0 4 1", 1, 1, 3);
        split("pact p of n2, n3, n1 split;", "0 4 1", 1, 3, 1);
        split("pact p of n2, n1 split;", "3 0", 1, 2);
    }

    private static void manyInAPact() {
        Due.sentence(CHAPTER, SHARES);
        String eight = "pact p of n1, n2, n3, n4, n5, n6, n7, n8 split;";
        split(eight, "7 0 0 0 0 0 0 0", 7, 0, 0, 0, 0, 0, 0, 0);
        split(eight, "0 0 0 0 0 0 0 8", 1, 1, 1, 1, 1, 1, 1, 1);
        split(eight, "0 0 0 0 0 0 0 9", 2, 1, 1, 1, 1, 1, 1, 1);
        split(eight, "0 0 0 0 0 0 7 8", 8, 1, 1, 1, 1, 1, 1, 1);
        split(eight, "0 0 0 0 0 0 8 8", 2, 2, 2, 2, 2, 2, 2, 2);
        split("pact p of n8, n7, n6, n5, n4, n3, n2, n1 split;", "9 0 0 0 0 0 0 0", 1, 1, 1, 1, 1, 1, 1, 2);
        // Six pacts, of which each one splits.
        split(Texts.lines("pact # of n1, n2 split;", 6), "1 2", 2, 1);
    }

    private static void cheatsShowHalf() {
        Due.sentence(CHAPTER, PACTS);
        String two = "pact p of n1, n2 split;";
        pact("0!", split(two, "0! 0", 0, 0), 0, 0, 0, 0);
        pact("1!", split(two, "1! 0", 1, 0), 0, 0, 1, 1);
        pact("2!", split(two, "2! 0", 2, 0), 0, 1, 1, 1);
        pact("3!", split(two, "3! 0", 3, 0), 0, 1, 2, 1);
        pact("4!", split(two, "4! 0", 3, 1), 0, 2, 2, 1);
        pact("5!", split(two, "5! 1", 5, 1), 0, 3, 3, 1);
        pact("0 1!", split(two, "0 1!", 0, 1), 0, 0, 1, 1);
        pact("0 5!", split(two, "0 5!", 1, 4), 0, 2, 3, 1);
        pact("5! 3!", split(two, "5! 3!", 5, 3), 0, 3, 5, 1);
        pact("1! 1!", split(two, "1! 1!", 1, 1), 0, 0, 2, 1);
        pact("a cheat with nothing", split(two, "6 0!", 3, 3), 0, 6, 0, 0);
        pact("a cheat with nothing, told first", split(two, "0! 5", 3, 2), 0, 5, 0, 0);
        pact("the only one", split("pact p of n1 split;", "5! 4", 5, 4), 0, 2, 3, 1);
        // A cheat who is not in it has no part in it.
        pact("another cheat", split(two, "4 0 5!", 2, 2, 5), 0, 4, 0, 0);
        split("", "5! 3!", 5, 3);
    }

    private static void shownAndHidden() {
        Due.sentence("promise 9", "4 what was shown in all, 5 what was hidden in all, "
                + "6 the tides in which something was hidden (4 to 6: 0 if it spares)");
        TideLots shore = Due.taught(FIVES + "fisher n1 mesh 5 net 99 hold 1; fisher n2 mesh 5 net 99 hold 2;"
                + "go n1 to a; go n2 to a; pact p of n1, n2 split; pact q of n1, n2 spare a below 3; pact r of n2 split;");
        pact("at first", shore, 0, 0, 0, 0);
        shore.cheat(0, true);
        // 5 and 10 are caught in each tide: the cheat shows 2, and hides 3.
        shore.pass(1);
        pact("behind one tide", shore, 0, 12, 3, 1);
        pact("a pact that spares", shore, 1, 0, 0, 0);
        shore.pass(1);
        pact("behind two tides", shore, 0, 24, 6, 2);
        shore.cheat(0, false);
        shore.pass(1);
        pact("behind an honest tide", shore, 0, 39, 6, 2);
        shore.cheat(1, true);
        shore.pass(1);
        pact("behind a tide of the other one", shore, 0, 49, 11, 3);
        pact("a pact that spares", shore, 1, 0, 0, 0);
    }

    private static void pactsByNumbers() {
        Due.sentence(CHAPTER, "Pacts that split, by numbers");
        split("pact p of n1, n2 split; pact q of n2, n3 split;", "4 0 0", 2, 1, 1);
        split("pact q of n2, n3 split; pact p of n1, n2 split;", "4 0 0", 2, 2, 0);
        // A pact that spares in between changes nothing.
        split("pact p of n1, n2 split; pact s of n1, n2, n3 spare a below 1; pact q of n2, n3 split;", "4 0 0", 2, 1, 1);
        split("pact s of n1, n2, n3 spare a below 1;", "4 0 0", 4, 0, 0);
        // Six pacts hand the half on and on.
        split("pact a of n1, n2 split; pact b of n2, n3 split; pact c of n3, n4 split; pact d of n4, n5 split;"
                + "pact e of n5, n6 split; pact f of n6, n7 split;", "40 0 0 0 0 0 0", 20, 10, 5, 3, 1, 1, 0);
    }

    private static void hiddenAheadOfTheNextPact() {
        Due.sentence(CHAPTER, "what is caught in this tide is that then, and what was hidden");
        // p: 3 are shown, 3 hidden: 5 and 1. q: of these 5, 2 are shown: 1 for each one, and 3 are hidden.
        TideLots shore = split("pact p of n1, n2 split; pact q of n1, n3 split;", "6! 0 0", 4, 1, 1);
        pact("6!", shore, 0, 3, 3, 1);
        pact("6!", shore, 1, 2, 3, 1);
        // p: 4 are shown, 2 for each one; q: the cheat shows 1 of 2, which is left over, and hides 1.
        shore = split("pact p of n1, n2 split; pact q of n2, n3 split;", "4 0! 0", 2, 2, 0);
        pact("4 0!", shore, 0, 4, 0, 0);
        pact("4 0!", shore, 1, 1, 1, 1);
    }

    private static void storesComeLast() {
        Due.sentence(CHAPTER, "What is caught comes into the stores.");
        TideLots shore = Due.taught(FIVES + "fisher n1 mesh 5 net 99 hold 5; fisher n2 mesh 5 net 99 hold 4;"
                + "fisher n3 mesh 5 net 99 hold 3; go n1 to a; go n2 to a; go n3 to a; pact p of n1, n2 split;");
        // 25, 20 and 15 are caught in each tide.
        int[] stores = {23, 22, 15};
        for (int tide = 1; tide <= 3; tide++) {
            Due.same("pass(1)", shore.pass(1), 60);
            for (int i = 0; i < 3; i++) {
                Due.same("the store of n" + (i + 1) + " behind " + tide + " tides", shore.fisher(i, 4), tide * stores[i]);
                Due.same("the catch of n" + (i + 1) + " in the latest tide", shore.fisher(i, 5), stores[i]);
            }
        }
        Due.same("all stores", shore.count(6), 180);
    }

    private static void shoal(String fish, int... due) {
        TideLots shore = Due.taught("ground a room 1 fish " + fish + ";");
        Due.same(fish + ": pass(1)", shore.pass(1), 0);
        int all = 0;
        for (int size = 1; size <= 5; size++) {
            int left = size <= due.length ? due[size - 1] : 0;
            all += left;
            Due.same(fish + ": behind the tide, of the size " + size, shore.ground(0, size), left);
        }
        Due.same(fish + ": all fish behind the tide", shore.ground(0, 0), all);
    }

    private static void aFifthGrows() {
        Due.sentence(CHAPTER, "for the sizes 4 down to 1, a fifth (cut) of the fish of this size are of the next size from now on");
        shoal("0");
        shoal("4", 4);
        shoal("5", 4, 1);
        shoal("9", 9, 1);
        shoal("10", 9, 2);
        shoal("0, 4", 0, 4);
        shoal("0, 5", 0, 4, 1);
        shoal("0, 9", 1, 8, 1);
        shoal("0, 10", 1, 8, 2);
        shoal("0, 0, 4", 0, 0, 4);
        shoal("0, 0, 5", 0, 0, 4, 1);
        shoal("0, 0, 9", 1, 0, 8, 1);
        shoal("0, 0, 10", 1, 0, 8, 2);
        shoal("0, 0, 0, 4", 0, 0, 0, 4);
        shoal("0, 0, 0, 5", 0, 0, 0, 4, 1);
        shoal("0, 0, 0, 9", 1, 0, 0, 8, 1);
        shoal("0, 0, 0, 10", 1, 0, 0, 8, 2);
        // Those of the size 5 stay what they are.
        shoal("0, 0, 0, 0, 5", 0, 0, 0, 0, 5);
        shoal("0, 0, 0, 0, 12", 2, 0, 0, 0, 12);
    }

    private static void ninetyNineAtMost() {
        Due.sentence(CHAPTER, "of the next size from now on, of which 99 stay at most (all others are gone)");
        shoal("0, 0, 0, 5, 97", 17, 0, 0, 4, 98);
        shoal("0, 0, 0, 5, 98", 17, 0, 0, 4, 99);
        shoal("0, 0, 0, 5, 99", 17, 0, 0, 4, 99);
        shoal("0, 0, 0, 99, 99", 29, 0, 0, 80, 99);
        shoal("0, 0, 0, 99, 80", 29, 0, 0, 80, 99);
        shoal("0, 0, 0, 99, 79", 29, 0, 0, 80, 98);
        shoal("0, 0, 99, 99", 33, 0, 80, 99, 19);
        // 108 fish less the one that is gone: a sixth is 17.
        shoal("0, 0, 0, 9, 99", 17, 0, 0, 8, 99);
        Due.sentence(CHAPTER, "then as many fish of the size 1 come as a sixth (cut) of all fish there, of which 99 stay at most");
        // 80 of the size 1 are left of 99, and 18, 19 or 20 come.
        shoal("99, 14", 98, 31, 2);
        shoal("99, 15", 99, 31, 3);
        shoal("99, 21", 99, 36, 4);
        shoal("99, 99, 99, 99, 99", 99, 99, 99, 99, 99);
    }

    private static void aSixthComes() {
        Due.sentence(CHAPTER, "then as many fish of the size 1 come as a sixth (cut) of all fish there");
        shoal("4, 0, 0, 0, 1", 4, 0, 0, 0, 1);
        shoal("4, 0, 0, 0, 2", 5, 0, 0, 0, 2);
        shoal("4, 0, 0, 0, 7", 5, 0, 0, 0, 7);
        shoal("4, 0, 0, 0, 8", 6, 0, 0, 0, 8);
        shoal("1, 1, 1, 1, 1", 1, 1, 1, 1, 1);
        shoal("1, 1, 1, 1, 2", 2, 1, 1, 1, 2);
        shoal("0, 0, 0, 0, 6", 1, 0, 0, 0, 6);
        shoal("0, 0, 0, 0, 99", 16, 0, 0, 0, 99);
    }

    private static void whatHasGrownDoesNotGrowAgain() {
        Due.sentence(CHAPTER, "for the sizes 4 down to 1");
        shoal("5, 4, 0, 0, 0", 5, 5);
        shoal("0, 5, 4, 0, 0", 1, 4, 5);
        shoal("0, 0, 5, 4, 0", 1, 0, 4, 5);
        shoal("5, 4, 4, 4, 0", 6, 5, 4, 4);
        shoal("25, 20, 20, 20", 34, 21, 20, 20, 4);
    }

    private static void shoalsEverywhere() {
        Due.sentence(CHAPTER, "Shoals: at each ground");
        TideLots shore = Due.taught(Texts.lines("ground # room 1 fish 10;", 8) + "fisher f mesh 1 net 9 hold 5; go f to n8;");
        shore.pass(1);
        for (int ground = 0; ground < 8; ground++) {
            // Behind the catching: 5 are left at the last one, of which one grows.
            Due.same("size 1 at the ground " + ground, shore.ground(ground, 1), ground < 7 ? 9 : 4);
            Due.same("size 2 at the ground " + ground, shore.ground(ground, 2), ground < 7 ? 2 : 1);
        }
    }

    private static void theNextTide() {
        Due.sentence(CHAPTER, "The tide is 1 greater.");
        TideLots shore = Due.taught(FIVES + "fisher f mesh 5 net 9 hold 1; go f to a when tide = 2;");
        for (int tide = 0; tide < 4; tide++) {
            Due.same("the tide", shore.count(0), tide);
            Due.same("the catch of the tide " + tide, shore.pass(1), tide == 2 ? 5 : 0);
        }
        shore.pass(60);
        Due.same("the tide behind pass(60)", shore.count(0), 64);
    }
}
