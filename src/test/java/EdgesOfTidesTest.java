import java.util.ArrayList;
import java.util.List;

/** The edges that the chapter "2. Tides" names, from the lots up to the catch, each one with its sentence. */
public final class EdgesOfTidesTest {
    private static final String CHAPTER = "2. Tides";
    private static final String YES = "1 < 2";
    private static final String NO = "2 < 1";

    public static void main(String[] args) {
        fishAsTold();
        fishersAtFirst();
        numberOfTheLots();
        lotsOfManyTides();
        withoutFishers();
        orderOfTheLots();
        boatsAtTheBeginning();
        room();
        firstOwnGo();
        testHoldsNow();
        athome();
        spares();
        sparesForThoseInIt();
        cheatsDoNotCare();
        fromFiveDownToTheMesh();
        asLongAsThereAreFish();
        fewerThanTheHold();
        theNetTears();
        theMeshIsAtMostSix();
        inTheGroundAgain();
        aCatchOfNothing();
        numbersInTests();
        comparisons();
        andAndOr();
        Due.end("EdgesOfTidesTest");
    }

    private static void fishAsTold() {
        Due.sentence(CHAPTER, "a ground has so many of each size as is told, from the size 1 on (0 of those that are not told)");
        int[] told = {7, 0, 99, 1, 50};
        StringBuilder fish = new StringBuilder();
        for (int sizes = 1; sizes <= 5; sizes++) {
            fish.append(sizes > 1 ? ", " : "").append(told[sizes - 1]);
            // A shore that was told before must not shine through.
            TideLots shore = Due.taught("ground b room 1 fish 11, 12, 13, 14, 15;");
            Due.same("teach", Due.teach(shore, "ground a room 1 fish " + fish + ";"), 0);
            Due.same("teach again", Due.teach(shore, "ground a room 1 fish " + fish + ";"), 0);
            int all = 0;
            for (int size = 1; size <= 5; size++) {
                int due = size <= sizes ? told[size - 1] : 0;
                all += due;
                Due.same(fish + ": fish of the size " + size, shore.ground(0, size), due);
            }
            Due.same(fish + ": all fish", shore.ground(0, 0), all);
        }
    }

    private static void fishersAtFirst() {
        String text = "ground a room 1 fish 9; fisher f mesh 5 net 99 hold 40; fisher g mesh 1 net 1 hold 1; go g to a;";
        TideLots shore = Due.taught(text);
        shore.cheat(0, true);
        shore.pass(2);
        for (int times = 0; times < 2; times++) {
            Due.same("teach", Due.teach(shore, text), 0);
            Due.sentence(CHAPTER, "A fisher has a mesh, a net of a strength, a hold, a store (0, at first), "
                    + "and what was caught in its latest tide (0, at first).");
            int[][] due = {{5, 5, 99, 40, 0, 0, -1, 0, 0, 0}, {1, 1, 1, 1, 0, 0, -1, 0, 0, 0}};
            for (int fisher = 0; fisher < 2; fisher++) {
                for (int what = 0; what < 10; what++) {
                    Due.same("fisher(" + fisher + ", " + what + ")", shore.fisher(fisher, what), due[fisher][what]);
                }
            }
            Due.sentence(CHAPTER, "A fisher can be a cheat (not, at first).");
            Due.same("cheats", shore.count(8), 0);
            Due.isTrue("cheats f does not hold", place("fisher f mesh 1 net 1 hold 1; ground a room 1 fish 1;"
                    + "go f to a when cheats f;") == -1);
        }
    }

    /** The ground of the first fisher in the first tide. */
    private static int place(String text) {
        TideLots shore = Due.taught(text);
        shore.pass(1);
        return shore.fisher(0, 6);
    }

    private static String fishers(int count) {
        return Texts.lines("fisher # mesh 1 net 99 hold 1;", count);
    }

    private static void lots(TideLots shore, int... due) {
        for (int lot = 0; lot < due.length; lot++) {
            Due.same("lot(" + lot + ") of " + due.length, shore.lot(lot), due[lot]);
        }
    }

    private static void numberOfTheLots() {
        Due.sentence(CHAPTER, "There is a number l, 1 at first. For each draw l becomes l * 69069 + 1 "
                + "(which wraps around in 32 bits); what is drawn among n is l, shifted to the right by 16 "
                + "(as a number without a sign), by the remainder of n.");
        // l: 69070, 475628535, 3277404108, 772999773, 3877832058, 3821835443; shifted 1, 7257, 50009, 11795, 59171, 58316.
        lots(Due.taught(fishers(1)), 0);
        // 1 of 2, then 7257 of 1.
        lots(Due.taught(fishers(2)), 1, 0);
        // 1 of 3, 7257 % 2 = 1 of 0 and 2, then the last one.
        lots(Due.taught(fishers(3)), 1, 2, 0);
        // 1 of 4, 7257 % 3 = 0 of 0 2 3, 50009 % 2 = 1 of 2 3, then 2.
        lots(Due.taught(fishers(4)), 1, 0, 3, 2);
        // 1 of 5, 7257 % 4 = 1 of 0 2 3 4, 50009 % 3 = 2 of 0 3 4, 11795 % 2 = 1 of 0 3, then 0.
        lots(Due.taught(fishers(5)), 1, 2, 4, 3, 0);
        // The draw for the last one counts, too: the next tide begins with the second l.
        TideLots shore = Due.taught(fishers(1));
        shore.pass(1);
        Due.same("teach", Due.teach(shore, fishers(3)), 0);
        // 7257 % 3 = 0, 50009 % 2 = 1 of 1 2
        lots(shore, 0, 2, 1);
        shore.pass(1);
        // 59171 % 3 = 2, 58316 % 2 = 0 of 0 1
        lots(shore, 2, 0, 1);
    }

    private static void lotsOfManyTides() {
        Due.sentence(CHAPTER, "For a tide all fishers stand in a row, by numbers; again and again the one at the place "
                + "that is drawn (from 0) among those who are left is taken out of the row, and has the next lot, "
                + "till nobody is left.");
        for (int count = 1; count <= 8; count++) {
            TideLots shore = Due.taught(fishers(count));
            long l = 1;
            for (int tide = 0; tide < 12; tide++) {
                List<Integer> row = new ArrayList<>();
                for (int i = 0; i < count; i++) {
                    row.add(i);
                }
                for (int lot = 0; lot < count; lot++) {
                    l = (l * 69069 + 1) % 4294967296L;
                    int due = row.remove((int) (l / 65536 % row.size()));
                    Due.same("lot(" + lot + ") of " + count + " in the tide " + tide, shore.lot(lot), due);
                }
                shore.pass(1);
            }
        }
    }

    private static void withoutFishers() {
        Due.sentence(CHAPTER, "again and again the one at the place that is drawn (from 0) among those who are left");
        TideLots shore = new TideLots();
        shore.pass(60);
        Due.same("teach", Due.teach(shore, fishers(4)), 0);
        lots(shore, 1, 0, 3, 2);
    }

    /** With a room for so many, those with the first lots are there. */
    private static void orderOfTheLots() {
        Due.sentence(CHAPTER, "Fisher by fisher, by lots");
        for (int room = 1; room <= 8; room++) {
            TideLots shore = Due.taught("ground a room " + room + " fish 99;" + fishers(8)
                    + Texts.lines("go # to a;", 8));
            for (int tide = 0; tide < 4; tide++) {
                int[] lots = new int[8];
                for (int lot = 0; lot < 8; lot++) {
                    lots[lot] = shore.lot(lot);
                }
                shore.pass(1);
                for (int lot = 0; lot < 8; lot++) {
                    Due.same("room " + room + ", the ground of lot " + lot, shore.fisher(lots[lot], 6), lot < room ? 0 : -1);
                }
            }
        }
        // The one with the first lot has the only great fish.
        TideLots shore = Due.taught("ground a room 8 fish 3, 0, 0, 0, 1;" + fishers(3) + Texts.lines("go # to a;", 3));
        shore.pass(1);
        Due.same("the catch of the first one", shore.fisher(1, 5), 5);
        Due.same("the catch of the second one", shore.fisher(2, 5), 1);
        Due.same("the catch of the last one", shore.fisher(0, 5), 1);
    }

    private static void boatsAtTheBeginning() {
        Due.sentence(CHAPTER, "No boats are at any ground.");
        TideLots shore = Due.taught("ground a room 1 fish 50; ground b room 8 fish 50;" + fishers(1)
                + "go n1 to a when tide < 2 and boats a = 0; go n1 to b when tide = 3 and boats a + boats b = 0;");
        int[] boatsAtA = {1, 1, 0, 0, 0};
        int[] boatsAtB = {0, 0, 0, 1, 0};
        Due.same("boats at first", shore.ground(0, 7), 0);
        for (int tide = 0; tide < 5; tide++) {
            shore.pass(1);
            Due.same("boats at a in the tide " + tide, shore.ground(0, 7), boatsAtA[tide]);
            Due.same("boats at b in the tide " + tide, shore.ground(1, 7), boatsAtB[tide]);
        }
    }

    private static void room() {
        Due.sentence(CHAPTER, "whose ground has fewer boats than its room");
        for (int count = 1; count <= 8; count++) {
            for (int room = 1; room <= 8; room++) {
                TideLots shore = Due.taught("ground a room " + room + " fish 99; ground b room 8 fish 0;" + fishers(count)
                        + Texts.lines("go # to a; go # to b;", count));
                int there = Math.min(count, room);
                Due.same(count + " fishers, room " + room + ": pass(1)", shore.pass(1), there);
                Due.same(count + " fishers, room " + room + ": boats at a", shore.ground(0, 7), there);
                Due.same(count + " fishers, room " + room + ": boats at b", shore.ground(1, 7), count - there);
            }
        }
    }

    private static void firstOwnGo() {
        Due.sentence(CHAPTER, "the fisher takes the first one of the own goes, in the order of their telling");
        String start = "fisher f mesh 1 net 99 hold 1; fisher g mesh 1 net 99 hold 1;" + Texts.lines("ground # room 1 fish 9;", 3);
        Due.same("the first of three", place(start + "go f to n2; go f to n1; go f to n3;"), 1);
        Due.same("the first own one", place(start + "go g to n1; go f to n3; go g to n2; go f to n2;"), 2);
        Due.same("another one's go", place(start + "go g to n1;"), -1);
        Due.same("the last of 24", place(start + ("go f to n1 when " + NO + ";").repeat(23) + "go f to n2;"), 1);
        Due.same("the first one that holds", place(start + "go f to n1 when " + NO + "; go f to n3 when " + YES + "; go f to n2;"), 2);
        // n1 is full: g has the first lot.
        Due.same("the first one with room", place(start + "go g to n1; go f to n1; go f to n3; go f to n2;"), 2);
        Due.same("the first one that is not spared",
                place(start + "go f to n1; go f to n3; go f to n2; pact p of f spare n1 below 99;"), 2);
        Due.same("a go may be told ahead of grounds", place("fisher f mesh 1 net 1 hold 1; ground a room 1 fish 9; go f to a;"
                + "ground b room 1 fish 9; go f to b;"), 0);
    }

    private static void testHoldsNow() {
        Due.sentence(CHAPTER, "whose test holds now (or that has none)");
        String start = "fisher f mesh 1 net 99 hold 2; fisher g mesh 1 net 99 hold 3; ground a room 8 fish 9; go g to a;";
        // g has the first lot.
        Due.same("6 fish are left", place(start + "go f to a when fish a = 6;"), 0);
        Due.same("9 fish were there", place(start + "go f to a when fish a = 9;"), -1);
        Due.same("the boat is there", place(start + "go f to a when boats a = 1;"), 0);
        Due.same("no boat was there", place(start + "go f to a when boats a = 0;"), -1);
        Due.same("none", place(start + "go f to a;"), 0);
    }

    private static void athome() {
        Due.sentence(CHAPTER, "Without one the fisher stays at home, and catches 0.");
        TideLots shore = Due.taught("ground a room 1 fish 0, 0, 0, 0, 9; fisher f mesh 5 net 9 hold 1; go f to a when tide = 1;");
        int[] places = {-1, 0, -1};
        int[] catches = {0, 5, 0};
        int[] stores = {0, 5, 5};
        for (int tide = 0; tide < 3; tide++) {
            Due.same("pass(1) in the tide " + tide, shore.pass(1), catches[tide]);
            Due.same("the ground in the tide " + tide, shore.fisher(0, 6), places[tide]);
            Due.same("the catch in the tide " + tide, shore.fisher(0, 5), catches[tide]);
            Due.same("the store in the tide " + tide, shore.fisher(0, 4), stores[tide]);
        }
    }

    private static void isSpared(boolean due, String fish, String sum) {
        TideLots shore = Due.taught("ground a room 1 fish " + fish + "; fisher f mesh 1 net 1 hold 1; go f to a;"
                + "pact p of f spare a below " + sum + ";");
        shore.pass(1);
        Due.same("the ground of f, with " + fish + " spared below " + sum, shore.fisher(0, 6), due ? -1 : 0);
    }

    private static void spares() {
        Due.sentence(CHAPTER, "A pact spares its ground for the fishers in it, if the fish there, all sizes together, "
                + "are fewer than its sum.");
        isSpared(false, "10", "9");
        isSpared(false, "10", "10");
        isSpared(true, "10", "11");
        isSpared(false, "0", "0");
        isSpared(true, "0", "1");
        isSpared(false, "0", "-1");
        isSpared(false, "99, 99, 99, 99, 99", "495");
        isSpared(true, "99, 99, 99, 99, 99", "496");
        isSpared(true, "99, 99, 99, 99, 99", "999999");
        // All sizes, by their number and not by their weight.
        isSpared(false, "1, 1, 1, 1, 1", "5");
        isSpared(true, "1, 1, 1, 1, 1", "6");
        isSpared(false, "0, 0, 0, 0, 3", "3");
        isSpared(true, "0, 0, 0, 0, 3", "4");
        isSpared(false, "10", "fish a");
        isSpared(true, "10", "fish a + 1");
        isSpared(false, "10", "10 + boats a");
    }

    private static void sparesForThoseInIt() {
        Due.sentence(CHAPTER, "whose ground no pact spares for this fisher now");
        String start = "fisher f mesh 1 net 99 hold 1; fisher g mesh 1 net 99 hold 4; ground a room 8 fish 9;"
                + "ground b room 8 fish 9; go f to a; go f to b;";
        Due.same("another one is in it", place(start + "pact p of g spare a below 99;"), 0);
        Due.same("another ground", place(start + "pact p of f spare b below 99;"), 0);
        Due.same("a pact that splits", place(start + "pact p of f split;"), 0);
        Due.same("the last one in it", place(start + "pact p of g, f spare a below 10;"), 1);
        Due.same("the last one of two pacts", place(start + "pact p of f spare a below 9; pact q of f spare a below 10;"), 1);
        Due.same("the first one of two pacts", place(start + "pact p of f spare a below 10; pact q of f spare a below 9;"), 1);
        Due.same("both grounds", place(start + "pact p of f spare a below 10; pact q of f, g spare b below 10;"), -1);
        // g has the first lot, and takes 4 of 9: now there are fewer.
        Due.same("fewer now", place(start + "go g to a; pact p of f spare a below 6;"), 1);
        Due.same("as many now", place(start + "go g to a; pact p of f spare a below 5;"), 0);
        Due.same("the sum now", place(start + "go g to a; pact p of f spare a below 2 + catch g;"), 1);
        Due.same("the sum now, as many", place(start + "go g to a; pact p of f spare a below 1 + catch g;"), 0);
    }

    private static void cheatsDoNotCare() {
        Due.sentence(CHAPTER, "A cheat does not care for pacts that spare.");
        String text = "fisher f mesh 1 net 99 hold 1; fisher g mesh 1 net 99 hold 1; ground a room 8 fish 9;"
                + "go f to a; go g to a; pact p of f, g spare a below 99; pact q of f spare a below 50;";
        for (int cheats = 0; cheats < 4; cheats++) {
            TideLots shore = Due.taught(text);
            shore.cheat(0, cheats % 2 == 1);
            shore.cheat(1, cheats / 2 == 1);
            shore.pass(1);
            Due.same("the ground of f", shore.fisher(0, 6), cheats % 2 == 1 ? 0 : -1);
            Due.same("the ground of g", shore.fisher(1, 6), cheats / 2 == 1 ? 0 : -1);
            shore.cheat(0, false);
            shore.pass(1);
            Due.same("the ground of f, honest again", shore.fisher(0, 6), -1);
        }
        // A cheat cares for the room and for tests.
        TideLots shore = Due.taught("fisher f mesh 1 net 99 hold 1; ground a room 8 fish 9; go f to a when " + NO + ";");
        shore.cheat(0, true);
        shore.pass(1);
        Due.same("a test that does not hold", shore.fisher(0, 6), -1);
        // g has the first lot.
        TideLots full = Due.taught("fisher f mesh 1 net 99 hold 1; fisher g mesh 1 net 99 hold 1; ground a room 1 fish 9;"
                + "go f to a; go g to a; pact p of f spare a below 99;");
        full.cheat(0, true);
        full.pass(1);
        Due.same("a ground without room", full.fisher(0, 6), -1);
    }

    /** One fisher at one ground: the weight, the fish and the mesh of the catch, and the fish of each size behind it. */
    private static void one(String fish, String fisher, int weight, int number, int mesh, int... left) {
        TideLots shore = Due.taught("ground a room 1 fish " + fish + "; fisher f " + fisher + "; go f to a;");
        String what = fisher + " at " + fish + ": ";
        int told = shore.fisher(0, 1);
        Due.same(what + "pass(1)", shore.pass(1), weight);
        Due.same(what + "the catch", shore.fisher(0, 5), weight);
        Due.same(what + "the store", shore.fisher(0, 4), weight);
        Due.same(what + "the mesh", shore.fisher(0, 0), mesh);
        Due.same(what + "the mesh as told", shore.fisher(0, 1), told);
        Due.same(what + "tears", shore.fisher(0, 7), mesh == told ? 0 : 1);
        Due.same(what + "wider nets", shore.count(7), mesh == told ? 0 : 1);
        Due.same(what + "the place", shore.fisher(0, 6), 0);
        Due.same(what + "boats", shore.ground(0, 7), 1);
        Due.same(what + "fish of the fisher", shore.fisher(0, 9), number);
        Due.same(what + "fish of the ground", shore.ground(0, 8), number);
        Due.same(what + "took", shore.took(0, 0), number);
        for (int size = 1; size <= 5; size++) {
            Due.same(what + "left of the size " + size, shore.ground(0, size), size <= left.length ? left[size - 1] : 0);
        }
    }

    private static void fromFiveDownToTheMesh() {
        Due.sentence(CHAPTER, "Catching: fish by fish, from the size 5 down to the mesh");
        one("1, 1, 1, 1, 1", "mesh 1 net 99 hold 40", 15, 5, 1);
        one("1, 1, 1, 1, 1", "mesh 2 net 99 hold 40", 14, 4, 2, 1);
        one("1, 1, 1, 1, 1", "mesh 3 net 99 hold 40", 12, 3, 3, 1, 1);
        one("1, 1, 1, 1, 1", "mesh 4 net 99 hold 40", 9, 2, 4, 1, 1, 1);
        one("1, 1, 1, 1, 1", "mesh 5 net 99 hold 40", 5, 1, 5, 1, 1, 1, 1);
        one("1, 1, 1, 1, 1", "mesh 1 net 99 hold 1", 5, 1, 1, 1, 1, 1, 1);
        one("2, 0, 1", "mesh 1 net 99 hold 2", 4, 2, 1, 1);
    }

    private static void asLongAsThereAreFish() {
        Due.sentence(CHAPTER, "as long as there are fish of a size");
        one("0", "mesh 1 net 1 hold 1", 0, 0, 1);
        one("1", "mesh 1 net 1 hold 2", 1, 1, 1);
        one("0, 0, 0, 0, 1", "mesh 1 net 5 hold 2", 5, 1, 1);
        one("3", "mesh 1 net 3 hold 40", 3, 3, 1);
        one("2, 0, 2, 0, 2", "mesh 1 net 99 hold 40", 18, 6, 1);
        one("0, 0, 0, 0, 19", "mesh 1 net 99 hold 40", 95, 19, 1);
    }

    private static void fewerThanTheHold() {
        Due.sentence(CHAPTER, "and the fish that were caught are fewer than the hold");
        int[] weights = {5, 9, 12, 14, 15};
        for (int hold = 1; hold <= 5; hold++) {
            int[] left = {1, 1, 1, 1, 1};
            for (int size = 5; size > 5 - hold; size--) {
                left[size - 1] = 0;
            }
            one("1, 1, 1, 1, 1", "mesh 1 net 99 hold " + hold, weights[hold - 1], hold, 1, left);
        }
        one("1, 1, 1, 1, 1", "mesh 1 net 99 hold 6", 15, 5, 1);
        one("41", "mesh 1 net 99 hold 40", 40, 40, 1, 1);
        one("40", "mesh 1 net 99 hold 40", 40, 40, 1);
        // A full hold ends the catching ahead of a fish that would tear the net.
        one("4", "mesh 1 net 3 hold 3", 3, 3, 1, 1);
        one("4", "mesh 1 net 1 hold 1", 1, 1, 1, 3);
        one("1, 0, 0, 0, 4", "mesh 1 net 9 hold 1", 5, 1, 1, 1, 0, 0, 0, 3);
        one("0, 0, 0, 0, 4", "mesh 1 net 10 hold 2", 10, 2, 1, 0, 0, 0, 0, 2);
    }

    private static void theNetTears() {
        Due.sentence(CHAPTER, "If the weight so far (the sizes of all that were caught, added) and the size of the next "
                + "fish, added, are more than the strength of the net, it tears: its mesh is 1 greater");
        one("1, 1, 1, 1, 1", "mesh 1 net 15 hold 40", 15, 5, 1);
        one("1, 1, 1, 1, 1", "mesh 1 net 14 hold 40", 14, 4, 2, 1);
        one("1, 1, 1, 1, 1", "mesh 1 net 13 hold 40", 12, 3, 2, 1, 1);
        one("1, 1, 1, 1, 1", "mesh 1 net 12 hold 40", 12, 3, 2, 1, 1);
        one("1, 1, 1, 1, 1", "mesh 1 net 11 hold 40", 9, 2, 2, 1, 1, 1);
        one("1, 1, 1, 1, 1", "mesh 1 net 9 hold 40", 9, 2, 2, 1, 1, 1);
        one("1, 1, 1, 1, 1", "mesh 1 net 8 hold 40", 5, 1, 2, 1, 1, 1, 1);
        one("1, 1, 1, 1", "mesh 1 net 9 hold 3", 9, 3, 1, 1);
        one("0, 0, 0, 0, 1", "mesh 1 net 5 hold 40", 5, 1, 1);
        one("0, 0, 0, 0, 1", "mesh 1 net 4 hold 40", 0, 0, 2, 0, 0, 0, 0, 1);
        one("0, 1", "mesh 1 net 1 hold 40", 0, 0, 2, 0, 1);
        // 99 = 19 of 5, and 4; the next one of size 5 is too heavy.
        one("0, 0, 0, 0, 20", "mesh 1 net 99 hold 40", 95, 19, 2, 0, 0, 0, 0, 1);
    }

    private static void theMeshIsAtMostSix() {
        Due.sentence(CHAPTER, "it tears: its mesh is 1 greater (at most 6)");
        for (int mesh = 1; mesh <= 5; mesh++) {
            one("0, 0, 0, 0, 1", "mesh " + mesh + " net 4 hold 40", 0, 0, mesh + 1, 0, 0, 0, 0, 1);
        }
        TideLots shore = Due.taught("ground a room 1 fish 0, 0, 0, 0, 3; fisher f mesh 1 net 4 hold 40; go f to a;");
        int[] meshes = {2, 3, 4, 5, 6, 6, 6};
        int[] tears = {1, 2, 3, 4, 5, 5, 5};
        for (int tide = 0; tide < 7; tide++) {
            Due.same("pass(1)", shore.pass(1), 0);
            Due.same("the mesh behind the tide " + tide, shore.fisher(0, 0), meshes[tide]);
            Due.same("the tears behind the tide " + tide, shore.fisher(0, 7), tears[tide]);
            Due.same("wider nets behind the tide " + tide, shore.count(7), 1);
            Due.same("fish behind the tide " + tide, shore.ground(0, 5), 3);
            Due.same("the place in the tide " + tide, shore.fisher(0, 6), 0);
        }
    }

    private static void inTheGroundAgain() {
        Due.sentence(CHAPTER, "the next fish, and all that were caught, but are smaller than the mesh now, are in the ground "
                + "(again), and the catching ends. What is caught in this tide is the weight of the rest; "
                + "they are gone from the ground.");
        // All of these are smaller than the mesh now.
        one("4", "mesh 1 net 3 hold 4", 0, 0, 2, 4);
        one("0, 0, 0, 0, 3", "mesh 5 net 14 hold 9", 0, 0, 6, 0, 0, 0, 0, 3);
        one("0, 0, 0, 2", "mesh 4 net 7 hold 9", 0, 0, 5, 0, 0, 0, 2);
        // As great as the mesh now, and one less.
        one("0, 1, 2", "mesh 2 net 7 hold 9", 6, 2, 3, 0, 1);
        one("0, 4, 1", "mesh 2 net 6 hold 9", 3, 1, 3, 0, 4);
        one("3, 1", "mesh 1 net 4 hold 9", 2, 1, 2, 3);
        one("0, 0, 0, 1, 1", "mesh 4 net 8 hold 9", 5, 1, 5, 0, 0, 0, 1);
        one("0, 0, 0, 0, 3", "mesh 4 net 14 hold 9", 10, 2, 5, 0, 0, 0, 0, 1);
        one("0, 0, 0, 0, 3", "mesh 1 net 14 hold 9", 10, 2, 2, 0, 0, 0, 0, 1);
        // The next fish is not caught, though it is greater than the mesh now, and smaller ones could be borne.
        one("2, 2, 1", "mesh 1 net 4 hold 9", 3, 1, 2, 2, 2);
        one("1, 1, 0, 0, 1", "mesh 1 net 6 hold 9", 5, 1, 2, 1, 1);
        // What is in the ground again is there for the next one: g is ahead of f, tears, and lets 3 go.
        TideLots shore = Due.taught("ground a room 2 fish 4; fisher f mesh 1 net 99 hold 4; fisher g mesh 1 net 3 hold 4;"
                + "go f to a; go g to a;");
        Due.same("pass(1)", shore.pass(1), 4);
        Due.same("the catch of f", shore.fisher(0, 5), 4);
        Due.same("the catch of g", shore.fisher(1, 5), 0);
        Due.same("nobody caught fewer than 0", shore.blame(0), 0);
    }

    private static void aCatchOfNothing() {
        Due.sentence(CHAPTER, "What is caught in this tide is the weight of the rest");
        one("0", "mesh 1 net 99 hold 40", 0, 0, 1);
        one("4", "mesh 2 net 99 hold 40", 0, 0, 2, 4);
        one("4", "mesh 5 net 1 hold 1", 0, 0, 5, 4);
        one("0, 0, 0, 0, 1", "mesh 5 net 1 hold 1", 0, 0, 6, 0, 0, 0, 0, 1);
        // A catch of nothing is the latest one, behind another one.
        TideLots shore = Due.taught("ground a room 1 fish 2; fisher f mesh 1 net 9 hold 9; go f to a;");
        Due.same("the first tide", shore.pass(1), 2);
        Due.same("the second tide", shore.pass(1), 0);
        Due.same("the latest catch", shore.fisher(0, 5), 0);
        Due.same("the store", shore.fisher(0, 4), 2);
        Due.same("the place", shore.fisher(0, 6), 0);
    }

    private static void numbersInTests() {
        Due.sentence(CHAPTER, "In tests and sums tide is the tide, store, catch and mesh those of the fisher now (catch: in "
                + "the latest tide, or in this one behind the own catching), fish all fish of the ground now, "
                + "and boats the boats there now.");
        String start = "fisher f mesh 1 net 99 hold 2; fisher g mesh 1 net 99 hold 3; fisher h mesh 3 net 4 hold 5;"
                + "ground a room 8 fish 40, 0, 0, 0, 4; ground b room 8 fish 1, 2, 1, 3, 1; go g to a; go h to a;";
        // The lots are 1, 2, 0: behind g, with three of size 5, and h, whose net tears at the fourth one.
        Due.same("tide", place(start + "go f to b when tide = 0;"), 1);
        Due.same("store of now, not with the catch", place(start + "go f to b when store g = 0;"), 1);
        Due.same("catch behind the catching", place(start + "go f to b when catch g = 15;"), 1);
        Due.same("catch of nothing", place(start + "go f to b when catch h = 0;"), 1);
        Due.same("mesh of a net that tore now", place(start + "go f to b when mesh h = 4;"), 1);
        Due.same("mesh of a whole net", place(start + "go f to b when mesh g = 1;"), 1);
        Due.same("all fish now", place(start + "go f to b when fish a = 41;"), 1);
        Due.same("all fish of all sizes", place(start + "go f to b when fish b = 8;"), 1);
        Due.same("boats now", place(start + "go f to b when boats a = 2 and boats b = 0;"), 1);
        // The latest catch is what came into the store, and stays the latest one till the own turn.
        TideLots shore = Due.taught("fisher f mesh 1 net 99 hold 3; fisher g mesh 1 net 99 hold 5; ground a room 8 fish 90;"
                + "go f to a when tide = 0; go g to a when tide = 0; pact p of g, f split;"
                + "go f to a when catch g = 4 and catch f = 4; go g to a when catch f = 4 and catch g = 4;");
        Due.same("the first tide", shore.pass(1), 8);
        int first = shore.lot(0);
        // The first one goes by the latest catches; the second one sees the catch of the first one.
        shore.pass(1);
        Due.same("the place of the first one", shore.fisher(first, 6), 0);
        Due.same("the place of the second one", shore.fisher(1 - first, 6), -1);
    }

    private static boolean holds(String test) {
        return place("fisher f mesh 1 net 1 hold 1; ground a room 1 fish 1; go f to a when " + test + ";") == 0;
    }

    private static void comparisons() {
        Due.sentence("1. The language", "sum ( \"<\" | \">\" | \"=\" | \"<=\" | \">=\" ) sum");
        String[] signs = {"<", ">", "=", "<=", ">="};
        for (int a = -1; a <= 2; a++) {
            for (int b = -1; b <= 2; b++) {
                boolean[] due = {a < b, a > b, a == b, a <= b, a >= b};
                for (int i = 0; i < signs.length; i++) {
                    String test = a + " " + signs[i] + " " + b;
                    Due.isTrue(test, holds(test) == due[i]);
                    Due.isTrue("not " + test, holds("not " + test) == !due[i]);
                    Due.isTrue("not not " + test, holds("not not " + test) == due[i]);
                    Due.isTrue(test + " and what holds", holds(test + " and " + YES) == due[i]);
                    Due.isTrue("what holds and " + test, holds("cheats f or " + YES + " and " + test) == due[i]);
                    Due.isTrue(test + " or what does not hold", holds(test + " or " + NO) == due[i]);
                    Due.isTrue("what does not hold or " + test, holds(NO + " or [" + test + "]") == due[i]);
                }
            }
        }
    }

    private static void andAndOr() {
        Due.sentence(CHAPTER, "Both sides of and and or are reckoned; and binds more than or, not more than and.");
        boolean[] both = {false, true};
        for (boolean a : both) {
            for (boolean b : both) {
                String x = a ? YES : NO;
                String y = b ? YES : NO;
                Due.isTrue(x + " and " + y, holds(x + " and " + y) == (a && b));
                Due.isTrue(x + " or " + y, holds(x + " or " + y) == (a || b));
                Due.isTrue("not " + x + " and " + y, holds("not " + x + " and " + y) == (!a && b));
                Due.isTrue("not " + x + " or " + y, holds("not " + x + " or " + y) == (!a || b));
                Due.isTrue("not [" + x + " and " + y + "]", holds("not [" + x + " and " + y + "]") == !(a && b));
                Due.isTrue("not [" + x + " or " + y + "]", holds("not [" + x + " or " + y + "]") == !(a || b));
                for (boolean c : both) {
                    String z = c ? YES : NO;
                    Due.isTrue(x + " or " + y + " and " + z, holds(x + " or " + y + " and " + z) == (a || b && c));
                    Due.isTrue(x + " and " + y + " or " + z, holds(x + " and " + y + " or " + z) == (a && b || c));
                    Due.isTrue("[" + x + " or " + y + "] and " + z, holds("[" + x + " or " + y + "] and " + z) == ((a || b) && c));
                    Due.isTrue(x + " and not " + y + " or " + z, holds(x + " and not " + y + " or " + z) == (a && !b || c));
                }
            }
        }
        // Nothing goes wrong at the other side.
        Due.isTrue("a division by 0 behind or", holds(YES + " or 1 / 0 > 1"));
        Due.isTrue("a division by 0 behind and", !holds(NO + " and 1 / 0 = 0"));
    }
}
