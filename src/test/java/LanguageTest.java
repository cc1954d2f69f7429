/** Promises 1 to 6: a new object, and the language. */
public final class LanguageTest {
    private static final String GROUND = Texts.GROUND;
    private static final String FISHER = Texts.FISHER;

    public static void main(String[] args) {
        newObject();
        feed();
        trim();
        count();
        tokens();
        brokenTexts();
        depth();
        tokenLimit();
        otherErrors();
        firstErrorCounts();
        limitsThatStillHold();
        teachReplacesAll();
        errorLeavesAll();
        Due.end("LanguageTest");
    }

    private static void newObject() {
        TideLots shore = new TideLots();
        for (int what = 0; what <= 9; what++) {
            Due.same("promise 1: count(" + what + ")", shore.count(what), 0);
        }
        Due.same("promise 1: gap()", shore.gap(), 0);
        Due.same("promise 1: mean()", shore.mean(), 0.0);
        Due.same("promise 1: errorAt()", shore.errorAt(), -1);
        Due.same("promise 1: pass(60)", shore.pass(60), 0);
        Due.same("promise 1: count(0) behind pass(60)", shore.count(0), 60);
    }

    private static void feed() {
        TideLots shore = new TideLots();
        Due.same("promise 2: feed", shore.feed(0x67726f75, 0x6e642061, 0x20726f6f, 0x6d203320, 0x66697368), 20);
        Due.same("promise 2: feed again", shore.feed(0x2032303b, -1, -1, 0, 0), 40);
        shore.trim(24);
        Due.same("promise 2: teach", shore.teach(), 0);
        Due.same("promise 2: room", shore.ground(0, 6), 3);
        Due.same("promise 2: fish", shore.ground(0, 0), 20);
        for (int i = 1; i <= 100; i++) {
            Due.same("promise 2: feed " + i, shore.feed(0, 0, 0, 0, 0), 20 * i);
        }
        Due.failsAndStays("promise 2: feed beyond 2000", IllegalStateException.class, shore,
                () -> shore.feed(1, 2, 3, 4, 5));
        Due.same("promise 2: bytes", shore.count(9), 2000);
        shore.trim(1981);
        Due.failsAndStays("promise 2: feed up to 2001", IllegalStateException.class, shore,
                () -> shore.feed(1, 2, 3, 4, 5));
        shore.trim(1980);
        Due.same("promise 2: feed up to 2000", shore.feed(1, 2, 3, 4, 5), 2000);
    }

    private static void trim() {
        TideLots shore = new TideLots();
        Due.same("promise 3: trim(0) of nothing", shore.trim(0), 0);
        Due.fails("promise 3: trim(1) of nothing", IllegalArgumentException.class, () -> shore.trim(1));
        Due.write(shore, "ground a room 1 fish 1;;;;");
        Due.failsAndStays("promise 3: trim(27)", IllegalArgumentException.class, shore, () -> shore.trim(27));
        Due.failsAndStays("promise 3: trim(-1)", IllegalArgumentException.class, shore, () -> shore.trim(-1));
        Due.fails("promise 3: trim(MIN)", IllegalArgumentException.class, () -> shore.trim(Integer.MIN_VALUE));
        Due.fails("promise 3: trim(MAX)", IllegalArgumentException.class, () -> shore.trim(Integer.MAX_VALUE));
        Due.same("promise 3: trim(26)", shore.trim(26), 26);
        Due.same("promise 3: trim(23)", shore.trim(23), 23);
        Due.same("promise 3: bytes", shore.count(9), 23);
        Due.same("promise 3: teach", shore.teach(), 0);
    }

    private static void count() {
        TideLots shore = Due.taught("ground a room 2 fish 6, 5; ground b room 1 fish 9;"
                + "fisher f mesh 1 net 3 hold 9; fisher g mesh 1 net 9 hold 2; fisher h mesh 2 net 9 hold 2;"
                + "go f to a; go f to b; go g to a; go h to b; pact p of f, g, h split;");
        int[] due = {0, 2, 3, 4, 1, 20, 0, 0, 0, 0};
        for (int what = 0; what < due.length; what++) {
            Due.same("promise 6: count(" + what + ")", shore.count(what), due[what]);
        }
        shore.cheat(2, true);
        Due.same("promise 6: cheats", shore.count(8), 1);
        shore.pass(1);
        // The lots are 1, 2, 0: g takes two of size 2, h finds none of size 2, f tears and keeps the one of size 2.
        Due.same("promise 6: tide", shore.count(0), 1);
        Due.same("promise 6: stores", shore.count(6), 6);
        Due.same("promise 6: wider nets", shore.count(7), 1);
        // a: 6 and 2, b: 9 of size 1; then shoals: a: 5 and 3, and one more; b: 8 and 1, and one more.
        Due.same("promise 6: fish", shore.count(5), 19);
        Due.write(shore, "abc");
        Due.same("promise 6: bytes", shore.count(9), 3);
        for (int what : new int[] {-1, 10, Integer.MIN_VALUE, Integer.MAX_VALUE}) {
            Due.failsAndStays("promise 6: count(" + what + ")", IndexOutOfBoundsException.class, shore,
                    () -> shore.count(what));
        }
    }

    private static void tokens() {
        Texts.good("");
        Texts.good(" \n \n");
        Texts.good("ground a room 3fish 4;");
        Texts.good("ground a\nroom\n1\nfish 4,5 , 6\n,7;\n");
        Texts.good("ground abcdefghij room 000008 fish 000099;");
        Texts.good("ground a1b2 room 1 fish 1;fisher a1b2 mesh 1net 1hold 1;go a1b2 to a1b2;pact a1b2 of a1b2 split;");
        Texts.good(GROUND + FISHER + "go f to a when[1<2]or[3<=4]and[5=5]and not[2>3]or 2>=1;");
        Texts.good(GROUND + FISHER + "go f to a when-1<min(tide,max(2,3));");
        Texts.good("ground grounds room 1 fish 1; ground f1sh room 1 fish 1;");
        // A greater number is never too great in a sum.
        Texts.good(GROUND + FISHER + "pact p of f spare a below 999999 * 999999;");
        Texts.bad(1, "^grounda room 1 fish 1;");
        Texts.bad(1, "ground a ^room1 fish 1;");
        Texts.bad(1, "ground ^abcdefghijk room 1 fish 1;");
        Texts.bad(1, "ground ^a234567890b room 1 fish 1;");
        Texts.bad(1, "ground a room ^0000001 fish 1;");
        Texts.bad(1, "ground ^A room 1 fish 1;");
        Texts.bad(1, "ground a^_ room 1 fish 1;");
        Texts.bad(1, "ground a^\t room 1 fish 1;");
        Texts.bad(1, "ground a^\r room 1 fish 1;");
        Texts.bad(1, "ground a^\u00e1 room 1 fish 1;");
        Texts.bad(1, "ground a^\u008a room 1 fish 1;");
        Texts.bad(1, "ground a^\u0000 room 1 fish 1;");
        Texts.bad(1, "ground a room 1 fish 1^.");
        Texts.bad(1, GROUND + FISHER + "go f to a when 1 <^> 2;");
        Texts.bad(1, GROUND + FISHER + "go f to a when 1 < ^= 2;");
        Texts.bad(1, GROUND + FISHER + "go f to a when 1 =^< 2;");
    }

    private static void brokenTexts() {
        Texts.bad(1, "^;");
        Texts.bad(1, "ground^");
        Texts.bad(1, "ground ^;");
        Texts.bad(1, "fisher ^;");
        Texts.bad(1, "go ^;");
        Texts.bad(1, "pact ^;");
        Texts.bad(1, "ground a room 1 fish 1^");
        Texts.bad(1, "ground a room 1 fish 1  \n^");
        Texts.bad(1, GROUND + "^;");
        Texts.bad(1, "ground ^room room 1 fish 1;");
        Texts.bad(1, "ground ^1 room 1 fish 1;");
        Texts.bad(1, "ground a ^fish 1 room 1;");
        Texts.bad(1, "ground a room ^a fish 1;");
        Texts.bad(1, "ground a room ^-1 fish 1;");
        Texts.bad(1, "ground a room 1 fish ^;");
        Texts.bad(1, "ground a room 1 fish 1,^;");
        Texts.bad(1, "ground a room 1 fish 1 ^2;");
        Texts.bad(1, "fisher f ^net 9 mesh 1 hold 4;");
        Texts.bad(1, "fisher f mesh 1 net 9^;");
        Texts.bad(1, "fisher f mesh 1 net 9 hold 4^,");
        Texts.bad(1, "fisher f mesh ^x net 9 hold 4;");
        Texts.bad(1, GROUND + FISHER + "go ^to a;");
        Texts.bad(1, GROUND + FISHER + "go f ^a;");
        Texts.bad(1, GROUND + FISHER + "go f to ^when 1 < 2;");
        Texts.bad(1, GROUND + FISHER + "go f to a when^;");
        Texts.bad(1, GROUND + FISHER + "go f to a when 1^;");
        Texts.bad(1, GROUND + FISHER + "go f to a when 1 < 2 ^< 3;");
        Texts.bad(1, GROUND + FISHER + "go f to a when (1 ^< 2);");
        Texts.bad(1, GROUND + FISHER + "go f to a when [1^] < 2;");
        Texts.bad(1, GROUND + FISHER + "go f to a when 1 < ^cheats f;");
        Texts.bad(1, GROUND + FISHER + "go f to a when 1 < 2 and^;");
        Texts.bad(1, GROUND + FISHER + "go f to a when 1 < 2 or ^or 1 < 2;");
        Texts.bad(1, GROUND + FISHER + "go f to a when tide ^f < 2;");
        Texts.bad(1, GROUND + FISHER + "go f to a when fish ^1 < 2;");
        Texts.bad(1, GROUND + FISHER + "go f to a when store^;");
        Texts.bad(1, GROUND + FISHER + "go f to a when min ^1 < 2;");
        Texts.bad(1, GROUND + FISHER + "go f to a when min(1^) < 2;");
        Texts.bad(1, GROUND + FISHER + "go f to a when max(1, 2^, 3) < 2;");
        Texts.bad(1, GROUND + FISHER + "go f to a when ^+1 < 2;");
        Texts.bad(1, GROUND + FISHER + "go f to a when ^f < 2;");
        Texts.bad(1, GROUND + FISHER + "go f to a when ^net f < 2;");
        Texts.bad(1, GROUND + FISHER + "pact p of ^split;");
        Texts.bad(1, GROUND + FISHER + "pact p of f, ^split;");
        Texts.bad(1, GROUND + FISHER + "pact p of f ^share;");
        Texts.bad(1, GROUND + FISHER + "pact p of f^;");
        Texts.bad(1, GROUND + FISHER + "pact p of f split ^a below 1;");
        Texts.bad(1, GROUND + FISHER + "pact p of f spare a^;");
        Texts.bad(1, GROUND + FISHER + "pact p of f spare a below^;");
        Texts.bad(1, GROUND + FISHER + "pact p of f spare a below 1 ^< 2;");
    }

    private static void depth() {
        String start = GROUND + FISHER + "go f to a when ";
        String pact = GROUND + FISHER + "pact p of f spare a below ";
        Texts.good(start + "((((((((1)))))))) < 2;");
        Texts.bad(1, start + "((((((((^(1))))))))) < 2;");
        Texts.good(start + "[[[[[[[[1 < 2]]]]]]]];");
        Texts.bad(1, start + "[[[[[[[[^[1 < 2]]]]]]]]];");
        Texts.good(start + "not not not not not not not not cheats f;");
        Texts.bad(1, start + "not not not not not not not not ^not cheats f;");
        Texts.good(start + "- - - - - - - -1 < 2;");
        Texts.bad(1, start + "- - - - - - - - ^-1 < 2;");
        Texts.good(start + "not [not [not [-(1) < 2]]];");
        Texts.bad(1, start + "not [not [not [-(^(1)) < 2]]];");
        Texts.bad(1, start + "not [not [not [-(min^(1, 2)) < 2]]];");
        Texts.bad(1, start + "not [not [not [-(^-1) < 2]]];");
        Texts.good(start + "not [not [not [not [1 < 2]]]] and [[[[[[[[1 < 2]]]]]]]];");
        Texts.bad(1, start + "not [not [not [not [^(1) < 2]]]];");
        Texts.bad(1, start + "not [not [not [not [^[1 < 2]]]]];");
        Texts.bad(1, start + "not [not [not [not [^not 1 < 2]]]];");
        Texts.good(start + "-1 - -1 - -1 - -1 - -1 - -1 - -1 - -1 - -1 - -1 - -1 < 2;");
        Texts.good(pact + "min(min(min(min(min(min(min(min(1,2),2),2),2),2),2),2),(((((((1))))))) - 7);");
        Texts.bad(1, pact + "min(min(min(min(min(min(min(min(min^(1,2),2),2),2),2),2),2),2),2);");
        Texts.bad(1, pact + "max(2, (((((((^(1)))))))));");
    }

    private static void tokenLimit() {
        StringBuilder sum = new StringBuilder("1");
        for (int i = 0; i < 187; i++) {
            sum.append("+1");
        }
        String pact = GROUND + FISHER + "pact p of f spare a below ";
        Texts.good(pact + "-" + sum + ";");
        Texts.good(pact + "-" + sum + "; \n");
        Texts.bad(1, pact + sum + "+1^;");
        Texts.bad(1, pact + "-" + sum + ";^pact");
        Texts.bad(1, pact + "-" + sum + "; ^?");
        Texts.bad(1, pact + "-" + sum + "+^1;");
        // An error further ahead counts, as does an error 1 behind another error.
        Texts.bad(1, pact + "^;" + sum + sum);
        Texts.bad(1, pact.replace("room 1", "room 9") + "-" + sum + "+^1;");
    }

    private static void otherErrors() {
        Texts.bad(2, GROUND + "ground ^a room 1 fish 1;");
        Texts.bad(2, FISHER + "fisher ^f mesh 1 net 9 hold 4;");
        Texts.bad(2, FISHER + "pact p of f split; pact ^p of f split;");
        Texts.bad(3, "go ^f to a;");
        Texts.bad(3, FISHER + "go f to ^a;");
        Texts.bad(3, FISHER + "go f to ^f;");
        Texts.bad(3, GROUND + "go ^a to a;");
        Texts.bad(3, GROUND + FISHER + "go f to a when store ^a < 1;");
        Texts.bad(3, GROUND + FISHER + "go f to a when catch ^g < 1;");
        Texts.bad(3, GROUND + FISHER + "go f to a when mesh ^a < 1;");
        Texts.bad(3, GROUND + FISHER + "go f to a when cheats ^a;");
        Texts.bad(3, GROUND + FISHER + "go f to a when fish ^f < 1;");
        Texts.bad(3, GROUND + FISHER + "go f to a when boats ^f < 1;");
        Texts.bad(3, GROUND + "pact p of ^a split;");
        Texts.bad(3, GROUND + FISHER + "pact p of f, ^g split;");
        Texts.bad(3, GROUND + FISHER + "pact p of f spare ^f below 1;");
        Texts.bad(3, GROUND + FISHER + "pact p of f spare a below fish ^b;");
        Texts.bad(3, GROUND + FISHER + "pact p of f split; pact q of ^p split;");
        Texts.bad(3, GROUND + FISHER + "go ^g to a; fisher g mesh 1 net 1 hold 1;");
        Texts.bad(5, "ground a room ^0 fish 1;");
        Texts.bad(5, "ground a room ^9 fish 1;");
        Texts.bad(5, "ground a room 8 fish ^100;");
        Texts.bad(5, "ground a room 1 fish 0, 99, 0, 0, ^100;");
        Texts.bad(5, "fisher f mesh ^0 net 9 hold 4;");
        Texts.bad(5, "fisher f mesh ^6 net 9 hold 4;");
        Texts.bad(5, "fisher f mesh 5 net ^0 hold 4;");
        Texts.bad(5, "fisher f mesh 1 net ^100 hold 4;");
        Texts.bad(5, "fisher f mesh 1 net 99 hold ^0;");
        Texts.bad(5, "fisher f mesh 1 net 9 hold ^41;");
        Texts.bad(6, FISHER + "pact p of f, ^f split;");
        Texts.bad(6, FISHER + "fisher g mesh 1 net 9 hold 4; pact p of f, g, ^f, g split;");
        Texts.bad(4, "ground a room 1 fish 1, 2, 3, 4, 5, ^6;");
        Texts.bad(4, Texts.lines("ground # room 1 fish 1;", 8) + "ground ^a room 1 fish 1;");
        Texts.bad(4, Texts.lines("fisher # mesh 1 net 1 hold 1;", 8) + "fisher ^a mesh 1 net 1 hold 1;");
        Texts.bad(4, FISHER + Texts.lines("pact # of f split;", 6) + "pact ^a of f split;");
        Texts.bad(4, GROUND + FISHER + Texts.lines("go f to a;", 24) + "^go f to a;");
    }

    private static void firstErrorCounts() {
        Texts.bad(1, "ground a room 9 fish 1; ^;");
        Texts.bad(5, GROUND + "ground b room ^9 fish 1; ground a room 1 fish 1;");
        Texts.bad(2, GROUND + "ground ^a room 9 fish 1;");
        Texts.bad(3, FISHER + "pact p of ^g, g, f, f split;");
        Texts.bad(4, "ground a room 1 fish 1, 2, 3, 4, 5, ^100, 100;");
        Texts.bad(2, Texts.lines("ground # room 1 fish 1;", 8) + "ground ^n1 room 1 fish 1;");
        Texts.bad(2, FISHER + Texts.lines("pact # of f split;", 6) + "pact ^n1 of f split;");
        Texts.bad(4, GROUND + FISHER + Texts.lines("go f to a;", 24) + "^go g to b;");
        Texts.bad(6, FISHER + "pact p of f, ^f, g split;");
        Texts.bad(5, "ground a room ^0 fish 100;");
        Texts.bad(2, FISHER + "fisher ^f mesh 0 net 0 hold 0;");
    }

    private static void limitsThatStillHold() {
        Texts.good(Texts.lines("ground # room 8 fish 99, 0, 99, 0, 99;", 8));
        Texts.good(Texts.lines("fisher # mesh 5 net 99 hold 40;", 8) + "pact all of n1, n2, n3, n4, n5, n6, n7, n8 split;");
        Texts.good(FISHER + Texts.lines("pact # of f split;", 6));
        Texts.good(GROUND + FISHER + Texts.lines("go f to a;", 24));
        // Grounds, fishers and pacts may have the same names.
        Texts.good("ground x room 1 fish 1; fisher x mesh 1 net 1 hold 1; pact x of x spare x below fish x + store x;");
    }

    private static void teachReplacesAll() {
        TideLots shore = Due.taught("ground a room 3 fish 50; fisher f mesh 1 net 9 hold 4; fisher g mesh 1 net 9 hold 4;"
                + "fisher h mesh 1 net 9 hold 4; go f to a; go g to a; pact p of f, g split;");
        shore.cheat(0, true);
        shore.pass(3);
        int[] lots = {shore.lot(0), shore.lot(1), shore.lot(2)};
        Due.same("promise 4: stores", shore.count(6), 40);
        Due.same("promise 4: teach", Due.teach(shore, "fisher x mesh 1 net 9 hold 4; fisher y mesh 2 net 9 hold 4;"
                + "fisher z mesh 1 net 9 hold 4; ground b room 2 fish 1, 2;"), 0);
        int[] due = {3, 1, 3, 0, 0, 3, 0, 0, 0, 0};
        for (int what = 0; what < due.length; what++) {
            Due.same("promise 4: count(" + what + ") behind a second teach", shore.count(what), due[what]);
        }
        for (int lot = 0; lot < 3; lot++) {
            Due.same("promise 4: lot(" + lot + ") stays", shore.lot(lot), lots[lot]);
        }
        for (int fisher = 0; fisher < 3; fisher++) {
            int[] fresh = {fisher == 1 ? 2 : 1, fisher == 1 ? 2 : 1, 9, 4, 0, 0, -1, 0, 0, 0};
            for (int what = 0; what < fresh.length; what++) {
                Due.same("promise 4: fisher(" + fisher + ", " + what + ")", shore.fisher(fisher, what), fresh[what]);
            }
            Due.same("promise 4: took(0, " + fisher + ")", shore.took(0, fisher), 0);
        }
        int[] ground = {3, 1, 2, 0, 0, 0, 2, 0, 0};
        for (int what = 0; what < ground.length; what++) {
            Due.same("promise 4: ground(0, " + what + ")", shore.ground(0, what), ground[what]);
        }
        Due.same("promise 4: teach of nothing", shore.teach(), 0);
        Due.same("promise 4: grounds", shore.count(1), 0);
        Due.same("promise 4: the tide stays", shore.count(0), 3);
        Due.same("promise 4: an old name is told anew", Due.teach(shore, GROUND + "ground b room 1 fish 2;"), 0);
        Due.same("promise 4: an old name is unknown", Due.teach(shore, "fisher f mesh 1 net 1 hold 1; go f to a;"), 3);
    }

    private static void errorLeavesAll() {
        TideLots shore = Due.taught("ground a room 3 fish 50; fisher f mesh 1 net 9 hold 4; go f to a when tide < 9;"
                + "pact p of f spare a below tide * 8 - store f;");
        shore.pass(2);
        long digest = shore.digest();
        int ahead = shore.foresee(9, 0);
        String[] texts = {
            "ground b room 1 fish 1; fisher g mesh 2 net 2 hold 2; go g to b when fish b > 1; ?",
            "ground b room 9 fish 1; fisher g mesh 2 net 2 hold 2;",
            "ground b room 1 fish 1; fisher g mesh 2 net 2 hold 2; go g to b; go h to b;",
            "fisher f mesh 1 net 1 hold 1; pact p of f, f, f, f, f, f, f, f, f, f split;",
            Texts.lines("ground # room 1 fish 2;", 12),
            Texts.lines("fisher # mesh 1 net 1 hold 1;", 12),
        };
        for (String text : texts) {
            Due.isTrue("promise 4: an error in " + text, Due.teach(shore, text) != 0);
            Due.same("promise 4: bytes behind an error", shore.count(9), 0);
            Due.same("promise 4: the digest behind an error", shore.digest(), digest);
            Due.same("promise 4: the future behind an error", shore.foresee(9, 0), ahead);
        }
        Due.same("promise 5: teach", Due.teach(shore, "ground a room 9 fish 1;"), 5);
        Due.same("promise 5: errorAt()", shore.errorAt(), 14);
        shore.pass(1);
        Due.write(shore, GROUND);
        Due.same("promise 5: errorAt() stays", shore.errorAt(), 14);
        Due.same("promise 5: teach again", shore.teach(), 0);
        Due.same("promise 5: errorAt() of no error", shore.errorAt(), -1);
    }
}
