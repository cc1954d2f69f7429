import java.math.BigInteger;

/** The edges of the promises 1 to 22, each "Throws .." and each range, and that a refused call changes nothing. */
public final class EdgesOfCallsTest {
    private static final Class<IndexOutOfBoundsException> INDEX = IndexOutOfBoundsException.class;
    private static final Class<IllegalArgumentException> ARGUMENT = IllegalArgumentException.class;
    private static final Class<IllegalStateException> STATE = IllegalStateException.class;
    private static final int[] NO_INDEX = {Integer.MIN_VALUE, -1, 3, Integer.MAX_VALUE};
    private static final int[] NO_TIDES = {Integer.MIN_VALUE, -1, 0, 61, Integer.MAX_VALUE};
    /** Fish for a mesh of 5: those that come and grow are too small for it, for many tides. */
    private static final String FIVES = "ground a room 8 fish 0, 0, 0, 0, 99;";

    public static void main(String[] args) {
        newObject();
        feedBytes();
        feedFull();
        trim();
        nothingBehindTrim();
        teachReplaces();
        teachAgainAndAgain();
        smallBehindGreat();
        teachWithAnError();
        errorAt();
        count();
        ground();
        fisher();
        pact();
        cheat();
        mend();
        mendRefused();
        lot();
        took();
        blame();
        gap();
        pass();
        foresee();
        aheadAsItPasses();
        aheadWithTheMostOfAll();
        pays();
        empty();
        advise();
        adviseSmall();
        mean();
        digest();
        firstNamedException();
        nothingIsThere();
        mostCalls();
        Due.end("EdgesOfCallsTest");
    }

    private static void newObject() {
        Due.sentence("promise 1", "Creates a shore without grounds and fishers, at the tide 0.");
        TideLots shore = new TideLots();
        for (int what = 0; what <= 9; what++) {
            Due.same("count(" + what + ")", shore.count(what), 0);
        }
        Due.same("errorAt()", shore.errorAt(), -1);
        Due.same("gap()", shore.gap(), 0);
        Due.same("mean()", shore.mean(), 0.0);
        Due.same("teach() of the empty tape", shore.teach(), 0);
        Due.same("errorAt() then", shore.errorAt(), -1);
        // Two objects have nothing to do with each other.
        TideLots other = Twins.example();
        Due.same("grounds, though another object has some", shore.count(1), 0);
        shore.pass(60);
        Due.same("the tide of the other object", other.count(0), 3);
    }

    private static void feedBytes() {
        Due.sentence("promise 2", "Appends twenty bytes to the tape: the four bytes of each number, the highest one first.");
        for (int times = 0; times < 3; times++) {
            for (int at = 0; at < 20; at++) {
                for (int sign : new int[] {0x80, 0xff, 0x01, 0x7f}) {
                    TideLots shore = new TideLots();
                    int[] fives = {0x20202020, 0x20202020, 0x20202020, 0x20202020, 0x20202020};
                    for (int i = 0; i < times; i++) {
                        Due.same("feed of blanks", shore.feed(fives[0], fives[1], fives[2], fives[3], fives[4]), 20 * (i + 1));
                    }
                    int shift = 24 - at % 4 * 8;
                    fives[at / 4] = fives[at / 4] & ~(255 << shift) | sign << shift;
                    shore.feed(fives[0], fives[1], fives[2], fives[3], fives[4]);
                    Due.same("teach of the byte " + sign, shore.teach(), 1);
                    Due.same("the place of the byte " + at + " behind " + times + " feeds", shore.errorAt(), 20 * times + at);
                }
            }
        }
        Due.sentence("promise 2", "Returns the number of bytes of the tape.");
        TideLots shore = new TideLots();
        for (int i = 1; i <= 100; i++) {
            Due.same("feed number " + i, shore.feed(i, -i, 0, -1, 1), 20 * i);
            Due.same("bytes", shore.count(9), 20 * i);
        }
        shore.trim(7);
        Due.same("feed behind trim(7)", shore.feed(0, 0, 0, 0, 0), 27);
    }

    private static void feedFull() {
        Due.sentence("promise 2", "Throws `IllegalStateException` if there would be more than 2000");
        Due.same("feed up to 2000", feedAt(1980).feed(1, 2, 3, 4, 5), 2000);
        Due.same("feed up to 1999", feedAt(1979).feed(1, 2, 3, 4, 5), 1999);
        for (int length : new int[] {1981, 1982, 1990, 1999, 2000}) {
            Twins.refused("feed with " + length + " bytes", STATE, () -> feedAt(length),
                    shore -> shore.feed(0x3f3f3f3f, 0x3f3f3f3f, 0x3f3f3f3f, 0x3f3f3f3f, 0x3f3f3f3f));
            TideLots shore = feedAt(length);
            Due.fails("feed with " + length + " bytes", STATE, () -> shore.feed(0, 0, 0, 0, 0));
            Due.same("bytes behind a refused feed", shore.count(9), length);
        }
        // It was not the last one for ever.
        TideLots shore = feedAt(2000);
        Due.fails("feed with 2000 bytes", STATE, () -> shore.feed(0, 0, 0, 0, 0));
        shore.trim(1980);
        Due.same("feed behind trim(1980)", shore.feed(0, 0, 0, 0, 0), 2000);
        Due.same("teach of a full tape", shore.teach(), 1);
        Due.same("feed behind teach", shore.feed(0, 0, 0, 0, 0), 20);
    }

    /** A shore with a text of so many bytes on the tape, without an error, whose last byte counts. */
    private static TideLots feedAt(int length) {
        TideLots shore = Twins.example();
        shore.trim(0);
        String end = "ground b room 1 fish 7;";
        String text = "ground a room 2 fish 55, 44;" + " ".repeat(2000 - 28 - end.length()) + end;
        Due.write(shore, text.substring(2000 - length));
        return shore;
    }

    private static void trim() {
        Due.sentence("promise 3", "Throws `IllegalArgumentException` if n is not 0 to the number of bytes of the tape");
        int length = Twins.example().count(9);
        Twins.range("trim", ARGUMENT, 0, length, (shore, n) -> shore.trim(n));
        TideLots none = new TideLots();
        Due.same("trim(0) of nothing", none.trim(0), 0);
        Due.failsAndStays("trim(1) of nothing", ARGUMENT, none, () -> none.trim(1));
        Due.failsAndStays("trim(-1) of nothing", ARGUMENT, none, () -> none.trim(-1));
        TideLots full = feedAt(2000);
        Due.same("trim(2000) of a full tape", full.trim(2000), 2000);
        Due.failsAndStays("trim(2001) of a full tape", ARGUMENT, full, () -> full.trim(2001));
        Due.sentence("promise 3", "Returns n.");
        for (int left = length; left >= 0; left -= 13) {
            int n = left;
            TideLots shore = Twins.example();
            Due.same("trim(" + n + ")", shore.trim(n), n);
            Due.same("bytes behind trim(" + n + ")", shore.count(9), n);
            Due.failsAndStays("a longer one again", ARGUMENT, shore, () -> shore.trim(n + 1));
        }
        Due.sentence("promise 3", "Shortens the tape to its first bytes.");
        TideLots shore = new TideLots();
        Due.write(shore, "ground a room 1 fish 12; ground b room 1 fish 3;");
        shore.trim(22);
        Due.write(shore, ";");
        Due.same("teach", shore.teach(), 0);
        Due.same("grounds", shore.count(1), 1);
        Due.same("fish", shore.ground(0, 0), 1);
    }

    /** What stood behind the first bytes is not read any more, not even to look for a longer token. */
    private static void nothingBehindTrim() {
        Due.sentence("promise 3", "Shortens the tape to its first bytes.");
        String text = "ground ab room 12 fish 99;fisher f mesh 1 net 9 hold 4;go f to ab when 1 <= 22 and 3 >= tide or not cheats f;";
        for (int length = 0; length <= text.length(); length++) {
            TideLots shore = new TideLots();
            Due.write(shore, text);
            shore.trim(length);
            TideLots twin = new TideLots();
            Due.write(twin, text.substring(0, length) + "?");
            twin.trim(length);
            Due.same("teach of the first " + length + " bytes", shore.teach(), twin.teach());
            Due.same("errorAt of the first " + length + " bytes", shore.errorAt(), twin.errorAt());
        }
        for (String end : new String[] {"a", "7", "<", ">", "=", ";", "g", "99"}) {
            TideLots full = new TideLots();
            Due.write(full, " ".repeat(2000 - end.length()) + end);
            Due.same("teach of a full tape with " + end + " at its end", full.teach(), 1);
            Due.same("errorAt of a full tape with " + end + " at its end", full.errorAt(), 2000 - end.length());
        }
        String open = "fisher f mesh 1 net 9 hold 4; ground a room 1 fish 1; go f to a when 1 ";
        for (String end : new String[] {"<", ">", "=", "<=", "< a", "< 7", "< tide"}) {
            TideLots full = new TideLots();
            Due.write(full, " ".repeat(2000 - open.length() - end.length()) + open + end);
            Due.same("teach of a full tape with " + end + " at its end", full.teach(), 1);
            Due.same("errorAt of a full tape with " + end + " at its end", full.errorAt(), end.equals("< a") ? 1999 : 2000);
        }
    }

    private static void teachReplaces() {
        Due.sentence("promise 4", "Reads the tape as a text, in the place of all that was told before; "
                + "the tide and the number l stay.");
        TideLots shore = Twins.example();
        shore.pass(1);
        int[] lots = {shore.lot(0), shore.lot(1), shore.lot(2)};
        Due.same("teach()", shore.teach(), 0);
        // The tide, one ground, three fishers, two goes, one pact, 77 fish, and nothing that has happened.
        int[] due = {4, 1, 3, 2, 1, 77, 0, 0, 0, 0};
        for (int what = 0; what <= 9; what++) {
            Due.same("count(" + what + ")", shore.count(what), due[what]);
        }
        for (int i = 0; i < 3; i++) {
            Due.same("lot(" + i + ")", shore.lot(i), lots[i]);
            Due.same("the place of the fisher " + i, shore.fisher(i, 6), -1);
            Due.same("took(0, " + i + ")", shore.took(0, i), 0);
            for (int what : new int[] {4, 5, 7, 8, 9}) {
                Due.same("fisher(" + i + ", " + what + ")", shore.fisher(i, what), 0);
            }
        }
        Due.same("boats", shore.ground(0, 7), 0);
        Due.same("fish that were caught", shore.ground(0, 8), 0);
        for (int what = 4; what <= 6; what++) {
            Due.same("pact(0, " + what + ")", shore.pact(0, what), 0);
        }
        Due.same("blame(0)", shore.blame(0), -1);
        Due.fails("ground(1, 0)", INDEX, () -> shore.ground(1, 0));
        Due.fails("pact(1, 0)", INDEX, () -> shore.pact(1, 0));
        Due.same("teach() of nothing", shore.teach(), 0);
        for (int what = 1; what <= 9; what++) {
            Due.same("count(" + what + ") behind a text of nothing", shore.count(what), 0);
        }
        Due.same("the tide behind a text of nothing", shore.count(0), 4);
    }

    private static void teachAgainAndAgain() {
        Due.sentence("promise 4", "in the place of all that was told before");
        TideLots shore = new TideLots();
        String text = FIVES + "ground b room 2 fish 4; fisher f mesh 5 net 4 hold 4; fisher g mesh 5 net 99 hold 3;"
                + "go f to a; go g to a; go g to b; pact p of g, f split; pact q of f spare b below 9;";
        int[] counts = {2, 2, 3, 2, 103, 0, 0, 0, 0};
        int[][] fishers = {{5, 5, 4, 4, 0, 0, -1, 0, 0, 0}, {5, 5, 99, 3, 0, 0, -1, 0, 0, 0}};
        int[][] pacts = {{0, -1, 2, 1, 0, 0, 0}, {1, 1, 1, 0, 0, 0, 0}};
        for (int times = 0; times < 5; times++) {
            Due.same("teach", Due.teach(shore, text), 0);
            for (int what = 1; what <= 9; what++) {
                Due.same("count(" + what + ")", shore.count(what), counts[what - 1]);
            }
            for (int i = 0; i < 2; i++) {
                for (int what = 0; what <= 9; what++) {
                    Due.same("fisher(" + i + ", " + what + ")", shore.fisher(i, what), fishers[i][what]);
                }
                for (int what = 0; what <= 6; what++) {
                    Due.same("pact(" + i + ", " + what + ")", shore.pact(i, what), pacts[i][what]);
                }
                Due.same("boats", shore.ground(i, 7), 0);
                Due.same("fish that were caught", shore.ground(i, 8), 0);
                Due.same("blame(" + i + ")", shore.blame(i), -1);
            }
            shore.cheat(0, true);
            shore.cheat(1, true);
            Due.same("pass(1)", shore.pass(1), 15);
            shore.foresee(3, 0);
        }
        // A long test is the same one, as often as it is told.
        String goes = "ground a room 1 fish 9; fisher f mesh 1 net 9 hold 1; go f to a when " + "1+".repeat(170) + "1 = ";
        for (int times = 0; times < 6; times++) {
            Due.same("teach", Due.teach(shore, goes + "172;"), 0);
            shore.pass(1);
            Due.same("a long test that does not hold", shore.fisher(0, 6), -1);
            Due.same("teach", Due.teach(shore, goes + "171;"), 0);
            shore.pass(1);
            Due.same("a long test that holds", shore.fisher(0, 6), 0);
        }
    }

    private static void teachWithAnError() {
        Due.sentence("promise 4", "If it has an error, all stays (but the tape is empty).");
        String[] texts = {
            "ground b room 1 fish 1; fisher g mesh 2 net 2 hold 2; go g to b when fish b > 1; ?",
            "ground a room 1 fish 1; fisher g mesh 2 net 2 hold 2; go g to a; ground a room 1 fish 1;",
            "ground b room 1 fish 1; fisher g mesh 2 net 2 hold 2; go g to b; go h to b;",
            "ground b room 2 fish 2; fisher g mesh 1 net 1 hold 1;" + "go g to b;".repeat(30),
            "ground b room 9 fish 1; fisher g mesh 2 net 2 hold 2; pact p of g spare b below 9;",
            "fisher g mesh 2 net 2 hold 2; pact p of g, g split;",
        };
        for (int i = 0; i < texts.length; i++) {
            TideLots shore = withoutTape();
            Due.same("teach of " + texts[i], Due.teach(shore, texts[i]), i + 1);
            Due.same("bytes behind " + texts[i], shore.count(9), 0);
            TideLots twin = withoutTape();
            Due.same("the digest", shore.digest(), twin.digest());
            Due.same("what is foreseen", shore.foresee(60, 0), twin.foresee(60, 0));
            shore.pass(9);
            twin.pass(9);
            Due.same("the digest nine tides later", shore.digest(), twin.digest());
        }
    }

    private static TideLots withoutTape() {
        TideLots shore = Twins.example();
        shore.trim(0);
        return shore;
    }

    private static void errorAt() {
        Due.sentence("promise 5", "Returns the position of the error of the latest teach(); "
                + "-1 if it had none, or there was none.");
        TideLots shore = new TideLots();
        Due.same("errorAt() at first", shore.errorAt(), -1);
        Due.same("teach", Due.teach(shore, "?"), 1);
        Due.same("errorAt() at the beginning", shore.errorAt(), 0);
        Due.same("teach", Due.teach(shore, "ground a room 9 fish 1;"), 5);
        Due.same("errorAt()", shore.errorAt(), 14);
        // Only teach() changes it.
        Due.write(shore, "ground a room 1 fish 1;");
        shore.pass(1);
        Due.fails("trim(99)", ARGUMENT, () -> shore.trim(99));
        Due.same("errorAt() then", shore.errorAt(), 14);
        Due.same("teach", shore.teach(), 0);
        Due.same("errorAt() without an error", shore.errorAt(), -1);
        Due.same("teach", Due.teach(shore, "ground"), 1);
        Due.same("errorAt() at the length", shore.errorAt(), 6);
        Due.same("teach of nothing", shore.teach(), 0);
        Due.same("errorAt() of nothing", shore.errorAt(), -1);
    }

    /** Each of the numbers that are told differs from the others. */
    private static void count() {
        Due.sentence("promise 6", "Throws `IndexOutOfBoundsException` if what is not 0 to 9");
        Twins.range("count", INDEX, 0, 9, TideLots::count);
        Due.sentence("promise 6", "0 the tide, 1 grounds, 2 fishers, 3 goes, 4 pacts, 5 all fish, 6 all stores, added, "
                + "7 nets whose mesh is greater than it was told, 8 cheats, 9 bytes of the tape");
        TideLots shore = Due.taught(FIVES + Texts.lines("ground # room 1 fish 2, 1;", 5)
                + Texts.lines("fisher # mesh 5 net 9 hold 1;", 3) + Texts.lines("fisher m# mesh 4 net 4 hold 1;", 4)
                + Texts.lines("go # to a;", 3) + Texts.lines("go mn# to a;", 4).replace("go mnn", "go mn") + "go n1 to n1;"
                + "go mn1 to n1;" + "pact p of n1 split; pact q of n1 split;");
        for (int fisher = 0; fisher < 3; fisher++) {
            shore.cheat(fisher, true);
        }
        Due.write(shore, "abcdefghijklm");
        // Three of size 5 are caught, four nets tear, 16 fish come at a.
        Due.same("pass(1)", shore.pass(1), 15);
        int[] due = {1, 6, 7, 9, 2, 96 + 16 + 5 * 3, 15, 4, 3, 13};
        for (int what = 0; what <= 9; what++) {
            Due.same("count(" + what + ")", shore.count(what), due[what]);
        }
    }

    private static void ground() {
        Due.sentence("promise 7", "Throws `IndexOutOfBoundsException` if there is no such ground, or what is not 0 to 8");
        Twins.range("ground(.., 0)", INDEX, 0, 1, (shore, n) -> shore.ground(n, 0));
        Twins.range("ground(1, ..)", INDEX, 0, 8, (shore, n) -> shore.ground(1, n));
        TideLots most = Due.taught(Texts.lines("ground # room 8 fish 1;", 8));
        Due.same("ground(7, 6)", most.ground(7, 6), 8);
        Due.fails("ground(8, 6)", INDEX, () -> most.ground(8, 6));
        Due.sentence("promise 7", "0 all fish there, 1 to 5 those of this size, 6 its room, 7 boats there in the latest tide, "
                + "8 fish that were caught there in all (those that are in the ground again not counted)");
        // f keeps 3 of size 5; g tears behind 2 of size 5, which are too small for its mesh then.
        TideLots shore = Due.taught("ground b room 1 fish 0; ground a room 4 fish 3, 1, 2, 4, 12; fisher f mesh 5 net 99 hold 3;"
                + "fisher g mesh 5 net 12 hold 9; go f to a; go g to a;");
        shore.pass(1);
        // 19 fish are left: a sixth is 3.
        int[] due = {22, 6, 1, 2, 4, 9, 4, 2, 3};
        for (int what = 0; what <= 8; what++) {
            Due.same("ground(1, " + what + ")", shore.ground(1, what), due[what]);
        }
        TideLots all = Due.taught(FIVES + "fisher f mesh 5 net 99 hold 3; fisher g mesh 5 net 99 hold 2; go f to a;"
                + "go g to a when tide < 2;");
        int[] caught = {0, 5, 10, 13, 16};
        for (int tide = 0; tide < caught.length; tide++) {
            Due.same("fish that were caught there in all in " + tide + " tides", all.ground(0, 8), caught[tide]);
            Due.same("boats there in the latest of " + tide + " tides", all.ground(0, 7), tide == 0 ? 0 : tide < 3 ? 2 : 1);
            all.pass(1);
        }
    }

    private static void fisher() {
        Due.sentence("promise 8", "Throws `IndexOutOfBoundsException` if there is no such fisher, or what is not 0 to 9");
        Twins.range("fisher(.., 0)", INDEX, 0, 2, (shore, n) -> shore.fisher(n, 0));
        Twins.range("fisher(2, ..)", INDEX, 0, 9, (shore, n) -> shore.fisher(2, n));
        TideLots most = Due.taught(Texts.lines("fisher # mesh 1 net 1 hold 40;", 8));
        Due.same("fisher(7, 3)", most.fisher(7, 3), 40);
        Due.fails("fisher(8, 3)", INDEX, () -> most.fisher(8, 3));
        Due.sentence("promise 8", "5 what was caught in the latest tide (as it came into the store), 6 the ground of the latest "
                + "tide, -1 at home (also at first), 7 how often the net tore, 8 1 for a cheat, else 0, "
                + "9 fish that were caught in all (as above)");
        TideLots shore = Due.taught("ground b room 1 fish 0;" + FIVES + "ground c room 1 fish 0, 0, 0, 0, 1;"
                + "fisher f mesh 3 net 14 hold 4; fisher g mesh 1 net 99 hold 1;"
                + "go f to a when tide < 2; go f to c when tide = 2; pact p of f, g split;");
        Due.same("the place at first", shore.fisher(0, 6), -1);
        // In each of two tides 2 of size 5 are kept, and the net tears: 10 are split. The net is too wide then.
        shore.pass(2);
        shore.cheat(0, true);
        int[] due = {5, 3, 14, 4, 10, 5, 1, 2, 1, 4};
        for (int what = 0; what <= 9; what++) {
            Due.same("fisher(0, " + what + ")", shore.fisher(0, what), due[what]);
        }
        // A cheat shows 2 of 5, hides 3, and has 1 of what is shown.
        shore.pass(1);
        Due.same("the catch as it came into the store", shore.fisher(0, 5), 4);
        Due.same("the ground of the latest tide", shore.fisher(0, 6), 2);
        shore.cheat(0, false);
        shore.pass(1);
        Due.same("the place at home", shore.fisher(0, 6), -1);
        Due.same("no cheat", shore.fisher(0, 8), 0);
    }

    private static void pact() {
        Due.sentence("promise 9", "Throws `IndexOutOfBoundsException` if there is no such pact, or what is not 0 to 6");
        Twins.range("pact(.., 0)", INDEX, 0, 1, (shore, n) -> shore.pact(n, 0));
        Twins.range("pact(1, ..)", INDEX, 0, 6, (shore, n) -> shore.pact(1, n));
        TideLots most = Due.taught("fisher f mesh 1 net 1 hold 1;" + Texts.lines("pact # of f split;", 6));
        Due.same("pact(5, 2)", most.pact(5, 2), 1);
        Due.fails("pact(6, 2)", INDEX, () -> most.pact(6, 2));
        Due.sentence("promise 9", "0 0 if it splits, 1 if it spares, 1 the ground that it spares, -1 if it splits, "
                + "2 how many fishers are in it, 3 the first one of these");
        TideLots shore = Due.taught(FIVES + "ground b room 1 fish 9;" + Texts.lines("fisher # mesh 5 net 99 hold 1;", 8)
                + Texts.lines("go # to a;", 8) + "pact p of n8, n1, n2, n3, n4, n5, n6, n7 split;"
                + "pact q of n3, n2 spare b below 99; pact r of n2 spare a below 1; pact s of n5, n6, n4 split;");
        shore.cheat(2, true);
        shore.pass(1);
        // 40 are caught, the cheat hides 3 of 5: 37 are shown, 4 for each one, and 5 are left over. s splits 12.
        int[][] due = {{0, -1, 8, 7, 37, 3, 1}, {1, 1, 2, 2, 0, 0, 0}, {1, 0, 1, 1, 0, 0, 0}, {0, -1, 3, 4, 12, 0, 0}};
        for (int pact = 0; pact < due.length; pact++) {
            for (int what = 0; what <= 6; what++) {
                Due.same("pact(" + pact + ", " + what + ")", shore.pact(pact, what), due[pact][what]);
            }
        }
    }

    private static void cheat() {
        Due.sentence("promise 10", "Throws `IndexOutOfBoundsException` if there is no such fisher");
        Twins.range("cheat(.., true)", INDEX, 0, 2, (shore, n) -> shore.cheat(n, true));
        Twins.range("cheat(.., false)", INDEX, 0, 2, (shore, n) -> shore.cheat(n, false));
        Due.sentence("promise 10", "Returns how many cheats there are then.");
        TideLots shore = Due.taught(Texts.lines("fisher # mesh 1 net 1 hold 1;", 8));
        Due.same("an honest one made honest", shore.cheat(0, false), 0);
        for (int fisher = 0; fisher < 8; fisher++) {
            Due.same("cheat(" + fisher + ", true)", shore.cheat(fisher, true), fisher + 1);
            Due.same("cheat(" + fisher + ", true) again", shore.cheat(fisher, true), fisher + 1);
        }
        Due.fails("cheat(8, true)", INDEX, () -> shore.cheat(8, true));
        Due.same("cheat(3, false)", shore.cheat(3, false), 7);
        Due.same("cheat(3, false) again", shore.cheat(3, false), 7);
        Due.sentence("promise 10", "whether a cheat from now on");
        for (int fisher = 0; fisher < 8; fisher++) {
            Due.same("fisher(" + fisher + ", 8)", shore.fisher(fisher, 8), fisher == 3 ? 0 : 1);
        }
        shore.pass(3);
        Due.same("cheats some tides later", shore.count(8), 7);
    }

    /** In the tide 0 a fish of just this weight is caught, in the tide 1 a greater one tears the net. */
    private static TideLots torn(int store) {
        StringBuilder fish = new StringBuilder();
        for (int size = 1; size <= store; size++) {
            fish.append(size > 1 ? ", " : "").append(size == store ? 1 : 0);
        }
        TideLots shore = Due.taught("ground a room 1 fish " + fish + "; ground b room 1 fish 0, 0, 0, 0, 1;"
                + "fisher f mesh 1 net " + store + " hold 9; go f to a when tide = 0; go f to b when tide > 0;");
        Due.same("pass(1)", shore.pass(1), store);
        Due.same("the mesh", shore.fisher(0, 0), 1);
        Due.same("pass(1)", shore.pass(1), 0);
        Due.same("the mesh of a torn net", shore.fisher(0, 0), 2);
        return shore;
    }

    private static void mend() {
        Due.sentence("promise 11", "Mends a net: its mesh is as it was told; this costs 3 of the store.");
        TideLots shore = torn(4);
        // Two tears more.
        shore.pass(2);
        Due.same("the mesh", shore.fisher(0, 0), 4);
        Due.same("mend(0)", shore.mend(0), 1);
        int[] due = {1, 1, 4, 9, 1, 0, 1, 3, 0, 1};
        for (int what = 0; what <= 9; what++) {
            Due.same("fisher(0, " + what + ")", shore.fisher(0, what), due[what]);
        }
        Due.same("wider nets", shore.count(7), 0);
        Due.sentence("promise 11", "Returns the store then.");
        Due.same("mend(0) with just 3", torn(3).mend(0), 0);
        Due.same("mend(0) with 4", torn(4).mend(0), 1);
        // A mesh of 6 is mended, too.
        TideLots wide = Due.taught("ground a room 1 fish 0, 0, 0, 1; ground b room 1 fish 0, 0, 0, 0, 1;"
                + "fisher f mesh 4 net 4 hold 9; go f to a when tide = 0; go f to b when tide > 0;");
        wide.pass(3);
        Due.same("the mesh", wide.fisher(0, 0), 6);
        Due.same("mend(0)", wide.mend(0), 1);
        Due.same("the mesh then", wide.fisher(0, 0), 4);
    }

    private static void mendRefused() {
        Due.sentence("promise 11", "Throws `IllegalStateException` if its mesh is as it was told, or the store is less than 3");
        for (int store = 1; store <= 2; store++) {
            int less = store;
            Twins.refused("mend(0) with " + less, STATE, () -> torn(less), shore -> shore.mend(0));
        }
        Twins.refused("mend(0) of a whole net, without a store", STATE,
                () -> Due.taught("fisher f mesh 1 net 1 hold 1;"), shore -> shore.mend(0));
        Twins.refused("mend(0) of a whole net, with a store", STATE, EdgesOfCallsTest::rich, shore -> shore.mend(0));
        Twins.refused("mend(0) again", STATE, EdgesOfCallsTest::mended, shore -> shore.mend(0));
        Due.sentence("promise 11", "Throws `IndexOutOfBoundsException` if there is no such fisher");
        for (int none : NO_INDEX) {
            Twins.refused("mend(" + none + ")", INDEX, Twins::example, shore -> shore.mend(none));
            Twins.refused("mend(" + none + ")", INDEX, () -> torn(4), shore -> shore.mend(none));
        }
        Due.fails("mend(1) of one", INDEX, () -> torn(4).mend(1));
    }

    private static TideLots rich() {
        TideLots shore = Due.taught(FIVES + "fisher f mesh 5 net 99 hold 9; go f to a;");
        shore.pass(1);
        return shore;
    }

    private static TideLots mended() {
        TideLots shore = Due.taught(FIVES + "fisher f mesh 1 net 99 hold 40; go f to a;");
        shore.pass(1);
        shore.mend(0);
        return shore;
    }

    private static void lot() {
        Due.sentence("promise 12", "Throws `IndexOutOfBoundsException` if lot is not 0 to the number of fishers - 1");
        Twins.range("lot", INDEX, 0, 2, TideLots::lot);
        for (int count = 1; count <= 8; count++) {
            TideLots shore = Due.taught(Texts.lines("fisher # mesh 1 net 1 hold 1;", count));
            int none = count;
            int seen = 0;
            for (int lot = 0; lot < count; lot++) {
                seen |= 1 << shore.lot(lot);
            }
            Due.same("each of " + count + " fishers has a lot", seen, (1 << count) - 1);
            Due.failsAndStays("lot(" + none + ") of " + none, INDEX, shore, () -> shore.lot(none));
        }
        Due.sentence("promise 12", "Returns the fisher who has it in the next tide (nothing is changed).");
        for (int lot = 0; lot < 3; lot++) {
            int asked = lot;
            Twins.unchanged("lot(" + asked + ")", Twins::example, shore -> shore.lot(asked));
        }
    }

    private static void took() {
        Due.sentence("promise 13", "Throws `IndexOutOfBoundsException` if there is no such ground or fisher");
        Twins.range("took(.., 0)", INDEX, 0, 1, (shore, n) -> shore.took(n, 0));
        Twins.range("took(0, ..)", INDEX, 0, 2, (shore, n) -> shore.took(0, n));
        TideLots most = Due.taught(Texts.lines("ground # room 1 fish 9;", 8) + Texts.lines("fisher # mesh 1 net 99 hold 4;", 8)
                + "go n8 to n8;");
        most.pass(1);
        Due.same("took(7, 7)", most.took(7, 7), 4);
        Due.same("took(0, 7)", most.took(0, 7), 0);
        Due.same("took(7, 0)", most.took(7, 0), 0);
        Due.fails("took(8, 7)", INDEX, () -> most.took(8, 7));
        Due.fails("took(7, 8)", INDEX, () -> most.took(7, 8));
        Due.sentence("promise 13", "Returns how many fish this one caught there in all.");
        // A pact gives away no fish that were caught; 4 that went again were not caught.
        TideLots shore = Due.taught(FIVES + "ground b room 8 fish 4; fisher f mesh 5 net 99 hold 3; fisher g mesh 1 net 3 hold 9;"
                + "go f to a; go g to b; pact p of g, f split;");
        shore.pass(4);
        Due.same("took(0, 0)", shore.took(0, 0), 12);
        Due.same("took(0, 1)", shore.took(0, 1), 0);
        Due.same("took(1, 1)", shore.took(1, 1), 0);
        Twins.unchanged("took(0, 0)", Twins::example, one -> one.took(0, 0));
    }

    private static void blame() {
        Due.sentence("promise 14", "Throws `IndexOutOfBoundsException` if there is no such ground");
        Twins.range("blame", INDEX, 0, 1, TideLots::blame);
        TideLots most = Due.taught(Texts.lines("ground # room 1 fish 9;", 8));
        Due.same("blame(7)", most.blame(7), -1);
        Due.fails("blame(8)", INDEX, () -> most.blame(8));
        Due.sentence("promise 14", "Returns the fisher who caught the most fish there in all, of several the one with the "
                + "smallest number; -1 if nobody caught any.");
        int[][] holds = {{1, 1, 1}, {1, 2, 1}, {1, 2, 2}, {1, 2, 3}, {2, 1, 2}, {3, 2, 2}};
        int[] due = {0, 1, 1, 2, 0, 0};
        for (int i = 0; i < due.length; i++) {
            TideLots shore = Due.taught(FIVES + "ground b room 1 fish 9;" + "fisher f mesh 5 net 99 hold " + holds[i][0]
                    + "; fisher g mesh 5 net 99 hold " + holds[i][1] + "; fisher h mesh 5 net 99 hold " + holds[i][2]
                    + "; go f to a; go g to a; go h to a;");
            Due.same("blame(0) at first", shore.blame(0), -1);
            shore.pass(3);
            Due.same("blame(0) with " + holds[i][0] + " " + holds[i][1] + " " + holds[i][2], shore.blame(0), due[i]);
            Due.same("blame(1)", shore.blame(1), -1);
        }
        // The number of fish counts, not the weight; and those that are in the ground again do not count.
        TideLots small = Due.taught("ground a room 8 fish 4, 0, 0, 0, 1; fisher f mesh 1 net 99 hold 2;"
                + "fisher g mesh 5 net 99 hold 1; go f to a; go g to a;");
        small.pass(1);
        Due.same("the catch of f, two fish", small.fisher(0, 5), 2);
        Due.same("the catch of g, one fish", small.fisher(1, 5), 5);
        Due.same("blame(0)", small.blame(0), 0);
        TideLots torn = Due.taught("ground a room 1 fish 4; fisher f mesh 1 net 3 hold 9; go f to a;");
        torn.pass(1);
        Due.same("blame(0) of a torn net", torn.blame(0), -1);
        TideLots single = Due.taught("ground a room 1 fish 4; fisher f mesh 1 net 3 hold 1; fisher g mesh 1 net 3 hold 1; go g to a;");
        single.pass(1);
        Due.same("blame(0) of a single fish", single.blame(0), 1);
    }

    private static void gap() {
        Due.sentence("promise 15", "Returns the greatest store, less the least one; 0 without fishers.");
        Due.same("gap() without fishers", new TideLots().gap(), 0);
        Due.same("gap() with grounds alone", Due.taught(FIVES).gap(), 0);
        int[][] holds = {{4}, {4, 4}, {1, 4}, {4, 1}, {2, 4, 1}, {2, 1, 4}, {1, 2, 4}, {4, 2, 1}};
        int[] due = {0, 0, 15, 15, 15, 15, 15, 15};
        for (int i = 0; i < due.length; i++) {
            StringBuilder text = new StringBuilder(FIVES);
            for (int k = 0; k < holds[i].length; k++) {
                text.append("fisher n").append(k).append(" mesh 5 net 99 hold ").append(holds[i][k]).append("; go n").append(k)
                        .append(" to a;");
            }
            TideLots shore = Due.taught(text.toString());
            Due.same("gap() at first", shore.gap(), 0);
            shore.pass(1);
            Due.same("gap() number " + i, shore.gap(), due[i]);
            shore.pass(1);
            Due.same("gap() number " + i + " behind two tides", shore.gap(), 2 * due[i]);
        }
        TideLots home = Due.taught(FIVES + Texts.lines("fisher # mesh 5 net 99 hold 1;", 8) + "go n8 to a;");
        home.pass(1);
        Due.same("gap() of one among those at home", home.gap(), 5);
    }

    private static void pass() {
        Due.sentence("promise 16", "Throws `IllegalArgumentException` if tides is not 1 to 60");
        Twins.range("pass", ARGUMENT, 1, 60, TideLots::pass);
        TideLots none = new TideLots();
        Due.failsAndStays("pass(0) without a shore", ARGUMENT, none, () -> none.pass(0));
        Due.failsAndStays("pass(61) without a shore", ARGUMENT, none, () -> none.pass(61));
        Due.sentence("promise 16", "Returns how much comes into all stores in them.");
        for (int tides : new int[] {1, 2, 59, 60}) {
            TideLots shore = Due.taught(FIVES + "fisher f mesh 5 net 99 hold 1; fisher g mesh 5 net 99 hold 1;"
                    + "go f to a; pact p of g, f split;");
            int due = 5 * tides;
            Due.same("pass(" + tides + ")", shore.pass(tides), due);
            Due.same("stores behind pass(" + tides + ")", shore.count(6), due);
            Due.same("tides behind pass(" + tides + ")", shore.count(0), tides);
        }
        // What was in the stores ahead of it is not told, nor what a net costs in between.
        TideLots shore = torn(4);
        shore.mend(0);
        Due.same("pass(1) without a catch", shore.pass(1), 0);
        Due.same("stores", shore.count(6), 1);
    }

    private static void foresee() {
        Due.sentence("promise 17", "Throws `IllegalArgumentException` if tides is not 1 to 60");
        for (int what = 0; what <= 2; what++) {
            int asked = what;
            Twins.range("foresee(.., " + what + ")", ARGUMENT, 1, 60, (shore, n) -> shore.foresee(n, asked));
        }
        Due.sentence("promise 17", "Throws `IndexOutOfBoundsException` if what is not 0 to 2");
        Twins.range("foresee(60, ..)", INDEX, 0, 2, (shore, n) -> shore.foresee(60, n));
        Due.sentence("promise 17", "Returns this, if nothing is done (nothing is changed).");
        for (int what = 0; what <= 2; what++) {
            for (int tides : new int[] {1, 2, 60}) {
                int asked = what;
                Twins.unchanged("foresee(" + tides + ", " + what + ")", Twins::example, shore -> shore.foresee(tides, asked));
                TideLots shore = Twins.example();
                int foreseen = shore.foresee(tides, what);
                shore.pass(tides);
                Due.same("foresee(" + tides + ", " + what + ")", foreseen,
                        what == 0 ? shore.count(6) : what == 1 ? shore.count(5) : shore.gap());
            }
        }
        // The last tide counts, and the one behind it does not: all of b is caught in the tide 59.
        String start = FIVES + "ground b room 1 fish 0, 0, 0, 0, 2; fisher f mesh 5 net 99 hold 40; fisher g mesh 1 net 1 hold 1;";
        Due.same("stores with a catch in the tide 59", Due.taught(start + "go f to b when tide = 59;").foresee(60, 0), 10);
        Due.same("stores with a catch in the tide 60", Due.taught(start + "go f to b when tide = 60;").foresee(60, 0), 0);
        Due.same("the gap with a catch in the tide 59", Due.taught(start + "go f to b when tide = 59;").foresee(60, 2), 10);
        Due.same("the gap with a catch in the tide 60", Due.taught(start + "go f to b when tide = 60;").foresee(60, 2), 0);
        // 16 come in the first tide, and a fifth of them is of the size 2 behind the second one, in which 19 come.
        Due.same("fish behind one tide", Due.taught(FIVES).foresee(1, 1), 115);
        Due.same("fish behind two tides", Due.taught(FIVES).foresee(2, 1), 134);
        TideLots none = new TideLots();
        for (int what = 0; what <= 2; what++) {
            Due.same("foresee(60, " + what + ") of nothing", none.foresee(60, what), 0);
        }
        Due.same("the tide stays", none.count(0), 0);
    }

    /** All that a tide depends on is there when one looks ahead. */
    private static void aheadAsItPasses() {
        String[] numbers = {"tide", "store g", "catch g", "mesh g", "fish a", "boats b", "catch f", "store h", "fish b"};
        for (String number : numbers) {
            String text = "ground a room 2 fish 20, 30, 3, 0, 9; ground b room 3 fish 9, 0, 0, 0, 40;"
                    + "fisher f mesh 5 net 99 hold 3; fisher g mesh 1 net 16 hold 4; fisher h mesh 4 net 40 hold 5;"
                    + "go g to a when tide / 3 * 3 < tide; go h to b; go g to b; go f to a when # / 2 * 2 = #; go f to b;"
                    + "pact p of h, f split; pact q of g, h spare b below 40 - #; pact r of f spare a below 50 + #;";
            for (int past = 0; past < 4; past++) {
                int tides = past;
                aheadAsItPasses(number + " behind " + tides + " tides", () -> {
                    TideLots shore = Due.taught(text.replace("#", number));
                    for (int i = 0; i < tides; i++) {
                        shore.pass(1);
                        shore.cheat(i % 2, true);
                    }
                    return shore;
                });
            }
        }
    }

    /** As many grounds, fishers, goes and pacts as there can be; all that is asked of the last ones of them. */
    private static void aheadWithTheMostOfAll() {
        String text = Texts.lines("ground # room 2 fish 20, 0, 9, 0, 9;", 8) + Texts.lines("fisher # mesh 4 net 9 hold 3;", 8)
                + Texts.lines("go # to #;", 8) + Texts.lines("go # to n8;", 8) + Texts.lines("go n8 to #;", 8)
                        .replace("go n8 to n8", "go n7 to n6")
                + Texts.lines("pact # of #, n7 split;", 4) + "pact n5 of n7, n8 spare n8 below 60; pact n6 of n8, n7 split;";
        for (int past : new int[] {0, 3}) {
            aheadAsItPasses("the most of all, behind " + past + " tides", () -> {
                TideLots shore = Due.taught(text);
                shore.cheat(7, true);
                for (int tide = 0; tide < past; tide++) {
                    shore.pass(1);
                }
                return shore;
            });
        }
        TideLots shore = Due.taught(text);
        Due.sentence("promise 17", "Returns this, if nothing is done (nothing is changed).");
        Twins.unchanged("foresee(60, 0)", () -> Due.taught(text), one -> one.foresee(60, 0));
        Due.sentence("promise 20", "Returns this, 1 to 5, of several the least (nothing is changed).");
        Twins.unchanged("advise(7, 40)", () -> Due.taught(text), one -> one.advise(7, 40));
        int mesh = shore.advise(7, 40);
        Due.isTrue("advise(7, 40)", mesh >= 1 && mesh <= 5);
        shore.pass(60);
        Due.sentence("promise 22", "(all in their order)");
        Due.same("digest()", shore.digest(), new Sum().all(shore).d.longValue());
    }

    /** Of a greater shore that was told before nothing may be seen any more, not even behind the last one. */
    private static void smallBehindGreat() {
        Due.sentence("promise 4", "in the place of all that was told before");
        String great = Texts.lines("ground # room 8 fish 99, 0, 0, 0, 99;", 8) + Texts.lines("fisher # mesh 1 net 9 hold 3;", 8)
                + Texts.lines("go # to n1;", 8) + Texts.lines("go # to n2;", 8) + Texts.lines("pact # of n1, n2 split;", 6);
        String small = "ground a room 1 fish 5; fisher f mesh 1 net 9 hold 1;";
        TideLots shore = new TideLots();
        for (int times = 0; times < 4; times++) {
            Due.same("teach", Due.teach(shore, great), 0);
            for (int fisher = 0; fisher < 8; fisher++) {
                shore.cheat(fisher, true);
            }
            shore.pass(3);
            shore.foresee(9, 0);
            if (times % 2 == 1) {
                Due.same("teach", Due.teach(shore, great), 0);
                shore.pass(3);
            }
            int tide = shore.count(0);
            Due.same("teach", Due.teach(shore, small), 0);
            int[] due = {tide, 1, 1, 0, 0, 5, 0, 0, 0, 0};
            for (int what = 0; what <= 9; what++) {
                Due.same("count(" + what + ")", shore.count(what), due[what]);
            }
            Due.same("blame(0)", shore.blame(0), -1);
            Due.same("gap()", shore.gap(), 0);
            Due.same("mean()", shore.mean(), 0.0);
            Due.same("foresee(1, 0)", shore.foresee(1, 0), 0);
            Due.same("foresee(1, 1)", shore.foresee(1, 1), 5);
            Due.same("digest()", shore.digest(), new Sum().all(shore).d.longValue());
            Due.same("pass(1)", shore.pass(1), 0);
            for (int none = 1; none <= 8; none++) {
                int i = none;
                Due.fails("ground(" + i + ", 0)", INDEX, () -> shore.ground(i, 0));
                Due.fails("fisher(" + i + ", 0)", INDEX, () -> shore.fisher(i, 0));
                Due.fails("pact(" + (i - 1) + ", 0)", INDEX, () -> shore.pact(i - 1, 0));
                Due.fails("lot(" + i + ")", INDEX, () -> shore.lot(i));
            }
        }
    }

    private static void aheadAsItPasses(String what, Twins.Maker maker) {
        TideLots shore = maker.make();
        for (int tides = 1; tides <= 9; tides += 2) {
            Due.sentence("promise 17", "Returns this, if nothing is done");
            TideLots then = maker.make();
            then.pass(tides);
            Due.same(what + ": foresee(" + tides + ", 0)", shore.foresee(tides, 0), then.count(6));
            Due.same(what + ": foresee(" + tides + ", 1)", shore.foresee(tides, 1), then.count(5));
            Due.same(what + ": foresee(" + tides + ", 2)", shore.foresee(tides, 2), then.gap());
            Due.sentence("promise 18", "Returns the store of this one behind so many tides, if a cheat from now on, "
                    + "less that one, if honest from now on");
            for (int fisher = 0; fisher < shore.count(2); fisher++) {
                TideLots cheat = maker.make();
                cheat.cheat(fisher, true);
                cheat.pass(tides);
                TideLots honest = maker.make();
                honest.cheat(fisher, false);
                honest.pass(tides);
                Due.same(what + ": pays(" + fisher + ", " + tides + ")", shore.pays(fisher, tides),
                        cheat.fisher(fisher, 4) - honest.fisher(fisher, 4));
            }
        }
        Due.sentence("promise 19", "Returns behind how many tides it has no fish, if nothing is done");
        for (int ground = 0; ground < shore.count(1); ground++) {
            TideLots then = maker.make();
            int tides = 0;
            while (tides < 100 && then.ground(ground, 0) > 0) {
                then.pass(1);
                tides++;
            }
            Due.same(what + ": empty(" + ground + ")", shore.empty(ground), then.ground(ground, 0) == 0 ? tides : -1);
        }
    }

    private static void pays() {
        Due.sentence("promise 18", "Throws `IndexOutOfBoundsException` if there is no such fisher");
        Twins.range("pays(.., 1)", INDEX, 0, 2, (shore, n) -> shore.pays(n, 1));
        Due.sentence("promise 18", "Throws `IllegalArgumentException` if tides is not 1 to 60");
        Twins.range("pays(2, ..)", ARGUMENT, 1, 60, (shore, n) -> shore.pays(2, n));
        Due.sentence("promise 18", "Returns the store of this one behind so many tides, if a cheat from now on, less that one, "
                + "if honest from now on (nothing is changed).");
        for (int fisher = 0; fisher < 3; fisher++) {
            for (int tides : new int[] {1, 2, 60}) {
                int asked = fisher;
                Twins.unchanged("pays(" + fisher + ", " + tides + ")", Twins::example, shore -> shore.pays(asked, tides));
            }
        }
        // It pays, it does not, and it costs; whether the fisher is a cheat now does not matter.
        String start = FIVES + "ground b room 8 fish 0, 0, 0, 0, 1; fisher f mesh 5 net 99 hold 4; fisher g mesh 5 net 99 hold 1;";
        for (boolean isCheat : new boolean[] {false, true}) {
            // Of 20 all are kept but 5 of the 10 that are shown, in the place of 10.
            Due.same("a pact that splits", paysOf(start + "go f to a; pact p of f, g split;", isCheat, 1), 5);
            Due.same("a pact that splits, two tides", paysOf(start + "go f to a; pact p of f, g split;", isCheat, 2), 10);
            Due.same("a pact that spares", paysOf(start + "go f to a; pact p of f spare a below 100;", isCheat, 1), 20);
            Due.same("no pact", paysOf(start + "go f to a;", isCheat, 1), 0);
            Due.same("a worse ground", paysOf(start + "go f to b when cheats f; go f to a;", isCheat, 1), -15);
            Due.same("the last tide", paysOf(start + "go f to a when tide = 59 and cheats f;", isCheat, 60), 20);
            Due.same("the tide behind it", paysOf(start + "go f to a when tide = 60 and cheats f;", isCheat, 60), 0);
        }
    }

    private static int paysOf(String text, boolean isCheat, int tides) {
        TideLots shore = Due.taught(text);
        shore.cheat(0, isCheat);
        int pays = shore.pays(0, tides);
        Due.same("fisher(0, 8) behind pays", shore.fisher(0, 8), isCheat ? 1 : 0);
        Due.same("the tide behind pays", shore.count(0), 0);
        return pays;
    }

    private static void empty() {
        Due.sentence("promise 19", "Throws `IndexOutOfBoundsException` if there is no such ground");
        Twins.range("empty", INDEX, 0, 1, TideLots::empty);
        TideLots most = Due.taught(Texts.lines("ground # room 1 fish 0;", 8));
        Due.same("empty(7)", most.empty(7), 0);
        Due.fails("empty(8)", INDEX, () -> most.empty(8));
        Due.sentence("promise 19", "Returns behind how many tides it has no fish, if nothing is done: 0 if it has none, "
                + "at most 100; -1 if not by then (nothing is changed).");
        Twins.unchanged("empty(0)", Twins::example, shore -> shore.empty(0));
        Twins.unchanged("empty(1)", Twins::example, shore -> shore.empty(1));
        Due.same("a ground without fish", emptyOf("0", "go f to a;"), 0);
        Due.same("a ground that is empty behind one tide", emptyOf("0, 0, 0, 0, 2", "go f to a;"), 1);
        Due.same("a ground that is empty behind two tides", emptyOf("0, 0, 0, 0, 4", "go f to a;"), 2);
        Due.same("a ground that is empty behind 99 tides", emptyOf("0, 0, 0, 0, 2", "go f to a when tide >= 98;"), 99);
        Due.same("a ground that is empty behind 100 tides", emptyOf("0, 0, 0, 0, 2", "go f to a when tide >= 99;"), 100);
        Due.same("a ground that is empty behind 101 tides", emptyOf("0, 0, 0, 0, 2", "go f to a when tide >= 100;"), -1);
        Due.same("a ground that stays full", emptyOf("0, 0, 0, 0, 2", ""), -1);
        // Tides are counted from now on.
        TideLots shore = Due.taught("ground a room 1 fish 0, 0, 0, 0, 2; fisher f mesh 5 net 99 hold 2; go f to a when tide >= 100;");
        shore.pass(1);
        Due.same("a ground that is empty behind 100 tides from now on", shore.empty(0), 100);
        shore.pass(60);
        Due.same("a ground that is empty behind 40 tides from now on", shore.empty(0), 40);
        shore.pass(40);
        Due.same("a ground that is empty now", shore.empty(0), 0);
    }

    private static int emptyOf(String fish, String goes) {
        return Due.taught("ground a room 1 fish " + fish + "; fisher f mesh 5 net 99 hold 2;" + goes).empty(0);
    }

    private static void advise() {
        Due.sentence("promise 20", "Throws `IndexOutOfBoundsException` if there is no such fisher");
        Twins.range("advise(.., 1)", INDEX, 0, 2, (shore, n) -> shore.advise(n, 1));
        Due.sentence("promise 20", "Throws `IllegalArgumentException` if tides is not 1 to 40");
        Twins.range("advise(2, ..)", ARGUMENT, 1, 40, (shore, n) -> shore.advise(2, n));
        Due.sentence("promise 20", "Looks for the mesh with which a fisher has the most in store behind so many tides, "
                + "if the net has it from now on.");
        for (int fisher = 0; fisher < 3; fisher++) {
            for (int tides : new int[] {1, 2, 40}) {
                int asked = fisher;
                Twins.unchanged("advise(" + fisher + ", " + tides + ")", Twins::example, shore -> shore.advise(asked, tides));
            }
        }
        String start = FIVES + "ground b room 8 fish 0; fisher f mesh 3 net 99 hold 4;";
        for (int mesh = 1; mesh <= 5; mesh++) {
            for (int tides : new int[] {1, 39, 40}) {
                String text = start + "go f to a when mesh f = " + mesh + " and tide = " + (tides - 1) + ";";
                Due.same("one mesh alone is of use in the last tide, " + tides, Due.taught(text).advise(0, tides), mesh);
            }
            String late = start + "go f to a when mesh f = " + mesh + " and tide = 40;";
            Due.same("the tide behind the last one", Due.taught(late).advise(0, 40), 1);
        }
        // A net that is torn to 6 would have one of 1 to 5, too; and a mesh of 6 is no advice.
        TideLots torn = Due.taught("ground a room 1 fish 0, 0, 0, 0, 3; fisher f mesh 5 net 4 hold 9; go f to a when tide = 0;"
                + "ground b room 1 fish 0, 0, 1; go f to b when tide = 1 and mesh f >= 2;");
        torn.pass(1);
        Due.same("the mesh", torn.fisher(0, 0), 6);
        Due.same("advise(0, 1) with a mesh of 6", torn.advise(0, 1), 2);
        Due.same("the mesh then", torn.fisher(0, 0), 6);
        Due.same("a mesh of 6 alone is of use", Due.taught(start + "fisher g mesh 1 net 99 hold 4;"
                + "go g to a when mesh f = 6; pact p of f, g split;").advise(0, 40), 1);
    }

    private static void adviseSmall() {
        Due.sentence("promise 20", "Returns this, 1 to 5, of several the least (nothing is changed).");
        String start = FIVES + "ground b room 8 fish 0; fisher f mesh 3 net 99 hold 4; fisher g mesh 1 net 1 hold 1;";
        Due.same("all alike", Due.taught(start + "go f to a;").advise(0, 40), 1);
        Due.same("all alike with nothing", Due.taught(start + "go f to b;").advise(0, 40), 1);
        Due.same("all alike at home", Due.taught(start).advise(1, 40), 1);
        Due.same("2 and above", Due.taught(start + "go f to a when mesh f >= 2;").advise(0, 40), 2);
        Due.same("3 and 4", Due.taught(start + "go f to a when mesh f = 3 or mesh f = 4;").advise(0, 40), 3);
        Due.same("4 and 5", Due.taught(start + "go f to a when mesh f > 3;").advise(0, 40), 4);
        Due.same("5", Due.taught(start + "go f to a when mesh f > 4;").advise(0, 40), 5);
        // A net that would tear has a mesh that is wider in the next tide.
        TideLots shore = Due.taught("ground a room 1 fish 9; fisher f mesh 5 net 4 hold 9; go f to a;");
        Due.same("a mesh of 1 tears in the first tide, the others catch nothing", shore.advise(0, 1), 1);
    }

    private static void mean() {
        Due.sentence("promise 21", "Returns the mean store of all fishers; 0 without any.");
        Due.same("mean() without fishers", new TideLots().mean(), 0.0);
        Due.same("mean() with grounds alone", Due.taught(FIVES).mean(), 0.0);
        for (int count = 1; count <= 8; count++) {
            TideLots shore = Due.taught(FIVES + Texts.lines("fisher # mesh 5 net 99 hold 2;", count) + "go n1 to a;");
            Due.same("mean() at first", shore.mean(), 0.0);
            shore.pass(1);
            Due.same("mean() of " + count, shore.mean(), 10.0 / count);
        }
        Twins.unchanged("mean()", Twins::example, shore -> Double.doubleToLongBits(shore.mean()));
    }

    private static void digest() {
        Due.sentence("promise 22", "A number d starts with 739; for each of the following numbers x, d becomes d * 31 + x, "
                + "which wraps around as a 64-bit integer");
        Due.same("digest() of a new object", new TideLots().digest(), new Sum().counts(new TideLots()).d.longValue());
        for (int tides = 1; tides < 5; tides++) {
            TideLots shore = Twins.example();
            shore.pass(tides);
            Due.same("digest() " + tides + " tides later", shore.digest(), new Sum().all(shore).d.longValue());
        }
        TideLots tide = new TideLots();
        tide.pass(1);
        // The tide is the first of ten numbers that are all 0 else: 739 * 31^10 + 31^9.
        Due.same("digest() at the tide 1", tide.digest(), 739L * 819628286980801L + 26439622160671L);
        Twins.unchanged("digest()", Twins::example, TideLots::digest);
    }

    /** The checksum as it would be without a bound. */
    private static final class Sum {
        private BigInteger d = BigInteger.valueOf(739);

        private void add(long x) {
            d = d.multiply(BigInteger.valueOf(31)).add(BigInteger.valueOf(x));
        }

        private Sum counts(TideLots shore) {
            for (int what = 0; what <= 9; what++) {
                add(shore.count(what));
            }
            return this;
        }

        private Sum all(TideLots shore) {
            counts(shore);
            for (int ground = 0; ground < shore.count(1); ground++) {
                for (int what = 0; what <= 8; what++) {
                    add(shore.ground(ground, what));
                }
                for (int fisher = 0; fisher < shore.count(2); fisher++) {
                    add(shore.took(ground, fisher));
                }
            }
            for (int fisher = 0; fisher < shore.count(2); fisher++) {
                for (int what = 0; what <= 9; what++) {
                    add(shore.fisher(fisher, what));
                }
            }
            for (int pact = 0; pact < shore.count(4); pact++) {
                for (int what = 0; what <= 6; what++) {
                    add(shore.pact(pact, what));
                }
            }
            for (int lot = 0; lot < shore.count(2); lot++) {
                add(shore.lot(lot));
            }
            return this;
        }
    }

    private static void firstNamedException() {
        Due.sentence("2. Tides", "A method that throws an exception changes nothing. If several exceptions apply, "
                + "the one that is named first is thrown.");
        for (int none : NO_INDEX) {
            for (int tides : NO_TIDES) {
                Twins.refused("foresee(" + tides + ", " + none + ")", ARGUMENT, Twins::example,
                        shore -> shore.foresee(tides, none));
                Twins.refused("pays(" + none + ", " + tides + ")", INDEX, Twins::example, shore -> shore.pays(none, tides));
                Twins.refused("advise(" + none + ", " + tides + ")", INDEX, Twins::example,
                        shore -> shore.advise(none, tides));
            }
            Twins.refused("mend(" + none + ")", INDEX, Twins::example, shore -> shore.mend(none));
            Twins.refused("ground(" + none + ", " + none + ")", INDEX, Twins::example, shore -> shore.ground(none, none - 1));
            Twins.refused("took(" + none + ", " + none + ")", INDEX, Twins::example, shore -> shore.took(none, none));
        }
    }

    private static void nothingIsThere() {
        Due.sentence("promise 1", "Creates a shore without grounds and fishers");
        TideLots shore = new TideLots();
        Due.failsAndStays("ground(0, 0)", INDEX, shore, () -> shore.ground(0, 0));
        Due.failsAndStays("fisher(0, 0)", INDEX, shore, () -> shore.fisher(0, 0));
        Due.failsAndStays("pact(0, 0)", INDEX, shore, () -> shore.pact(0, 0));
        Due.failsAndStays("cheat(0, true)", INDEX, shore, () -> shore.cheat(0, true));
        Due.failsAndStays("mend(0)", INDEX, shore, () -> shore.mend(0));
        Due.failsAndStays("lot(0)", INDEX, shore, () -> shore.lot(0));
        Due.failsAndStays("took(0, 0)", INDEX, shore, () -> shore.took(0, 0));
        Due.failsAndStays("blame(0)", INDEX, shore, () -> shore.blame(0));
        Due.failsAndStays("pays(0, 1)", INDEX, shore, () -> shore.pays(0, 1));
        Due.failsAndStays("empty(0)", INDEX, shore, () -> shore.empty(0));
        Due.failsAndStays("advise(0, 1)", INDEX, shore, () -> shore.advise(0, 1));
        TideLots grounds = Due.taught(FIVES);
        Due.failsAndStays("took(0, 0) with a ground", INDEX, grounds, () -> grounds.took(0, 0));
        TideLots fishers = Due.taught("fisher f mesh 1 net 1 hold 1;");
        Due.failsAndStays("took(0, 0) with a fisher", INDEX, fishers, () -> fishers.took(0, 0));
    }

    private static void mostCalls() {
        Due.sentence("What it is", "An object is used for at most 512 calls after it has been made");
        TideLots shore = new TideLots();
        Due.same("teach", Due.teach(shore, FIVES + "fisher f mesh 1 net 99 hold 40; go f to a;"), 0);
        int calls = 2 + (FIVES.length() + "fisher f mesh 1 net 99 hold 40; go f to a;".length() + 19) / 20 + 1;
        int tides = 0;
        for (; calls < 511; calls++) {
            shore.pass(60);
            tides += 60;
        }
        Due.same("the tide in the call 512", shore.count(0), tides);
    }
}
