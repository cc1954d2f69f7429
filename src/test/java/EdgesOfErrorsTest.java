/** The edges of the depth, of the number of tokens, and of the errors 1 to 6 that the chapter "1. The language" names. */
public final class EdgesOfErrorsTest {
    private static final String CHAPTER = "1. The language";
    private static final String GROUND = Texts.GROUND;
    private static final String FISHER = Texts.FISHER;
    private static final String GO_WHEN = Texts.GO_WHEN;
    private static final String SPARE_BELOW = Texts.SPARE_BELOW;

    public static void main(String[] args) {
        depth();
        depthThatIsLeft();
        deepestToken();
        errorOne();
        endOfTheTape();
        tokenNumber401();
        errorOneAheadOfAll();
        leftToRight();
        smallestNumberAtOneToken();
        errorTwo();
        errorThree();
        errorThreeToldBehind();
        errorFour();
        errorFive();
        errorSix();
        numberedAsTold();
        Due.end("EdgesOfErrorsTest");
    }

    private static void depth() {
        Due.sentence(CHAPTER, "Depth. It is 0 at the beginning, and 1 greater between a ( and its ), a [ and its ], "
                + "behind a - in front (of a value) for what it turns, and behind a not for what it turns. "
                + "It may be at most 8.");
        Texts.good(GO_WHEN + "((((((((1)))))))) < ((((((((2))))))));");
        Texts.bad(1, GO_WHEN + "((((((((^(1))))))))) < 2;");
        Texts.bad(1, GO_WHEN + "1 < ((((((((^(2)))))))));");
        Texts.good(GO_WHEN + "[[[[[[[[1 < 2]]]]]]]];");
        Texts.bad(1, GO_WHEN + "[[[[[[[[^[1 < 2]]]]]]]]];");
        Texts.good(GO_WHEN + "not not not not not not not not 1 < 2;");
        Texts.bad(1, GO_WHEN + "not not not not not not not not ^not 1 < 2;");
        Texts.good(GO_WHEN + "--------1 < --------2;");
        Texts.bad(1, GO_WHEN + "--------^-1 < 2;");
        Texts.bad(1, GO_WHEN + "1 < --------^-2;");
        Texts.good(SPARE_BELOW + "min(min(min(min(min(min(min(min(1,2),2),2),2),2),2),2),2);");
        Texts.bad(1, SPARE_BELOW + "min(min(min(min(min(min(min(min(min^(1,2),2),2),2),2),2),2),2),2);");
        Texts.good(SPARE_BELOW + "max(1,max(1,max(1,max(1,max(1,max(1,max(1,max(1,2))))))));");
        Texts.bad(1, SPARE_BELOW + "max(1,max(1,max(1,max(1,max(1,max(1,max(1,max(1,max^(1,2)))))))));");
        Texts.good(SPARE_BELOW + "((((((((1))))))));");
        Texts.bad(1, SPARE_BELOW + "((((((((^(1)))))))));");
        Texts.good(SPARE_BELOW + "--------1;");
        Texts.bad(1, SPARE_BELOW + "--------^-1;");
    }

    private static void depthThatIsLeft() {
        Due.sentence(CHAPTER, "for what it turns");
        // Behind what is turned, and behind a bracket, the depth is what it was ahead.
        Texts.good(GO_WHEN + "-1 - -1 - -1 - -1 - -1 - -1 - -1 - -1 - -1 - -1 < 2;");
        Texts.good(GO_WHEN + "-1 * ((((((((1)))))))) / --------1 < 2;");
        Texts.good(SPARE_BELOW + "(1) + (1) + (1) + (1) + (1) + (1) + (1) + (1) + (1) + (1);");
        Texts.good(SPARE_BELOW + "-(1) - -((((((1)))))) - ((((((((1))))))));");
        Texts.good(SPARE_BELOW + "min(1, 2) + max((1), 2) + min(min(min(min(min(min(min((1), 2), 2), 2), 2), 2), 2), 2);");
        Texts.good(GO_WHEN + "not 1 < 2 and not not not not not not not not 1 < 2;");
        Texts.good(GO_WHEN + "not cheats f or not not not not not not not not cheats f;");
        Texts.good(GO_WHEN + "[1 < 2] and [1 < 2] or [[[[[[[[1 < 2]]]]]]]];");
        Texts.good(GO_WHEN + "1 < 2 and [[[[[[[[1 < 2]]]]]]]] or not not not not not not not not 1 < 2;");
        // A not turns both sides of a comparison, a - in between turns none.
        Texts.good(GO_WHEN + "not -------1 < -------1;");
        Texts.bad(1, GO_WHEN + "not 1 < -------^-1;");
        Texts.bad(1, GO_WHEN + "not -------^-1 < 1;");
        Texts.good(GO_WHEN + "1 - --------1 < 2;");
        Texts.good(SPARE_BELOW + "1 - ((((((((1))))))));");
        // The next line begins with 0.
        Texts.good(GO_WHEN + "[[[[[[[[1 < 2]]]]]]]]; go f to a when [[[[[[[[1 < 2]]]]]]]];");
    }

    private static void deepestToken() {
        Due.sentence(CHAPTER, "the (, [, - or not behind which the depth would be 9");
        // Each ~ stands at the depth 8.
        String[] sums = {"((((((((~)))))))) < 1", "1 < -------(~)",
            "not [not [not [-(~) < 2]]]", "[[not [not [-max(1, ~) < 2]]]]", "not not not not not not 1 < -min(~, 2)"};
        for (String sum : sums) {
            Texts.good(GO_WHEN + sum.replace("~", "1 + tide * 2") + ";");
            Texts.bad(1, GO_WHEN + sum.replace("~", "^(1)") + ";");
            Texts.bad(1, GO_WHEN + sum.replace("~", "^-1") + ";");
            Texts.bad(1, GO_WHEN + sum.replace("~", "1 + ^-1") + ";");
            Texts.bad(1, GO_WHEN + sum.replace("~", "min^(1, 2)") + ";");
            Texts.bad(1, GO_WHEN + sum.replace("~", "1 * max^(1, 2)") + ";");
        }
        String[] tests = {"[[[[[[[[~]]]]]]]]", "not not not not not not not not ~", "not [not [not [not [~]]]]"};
        for (String test : tests) {
            Texts.good(GO_WHEN + test.replace("~", "1 < 2") + ";");
            Texts.good(GO_WHEN + test.replace("~", "cheats f") + ";");
            Texts.bad(1, GO_WHEN + test.replace("~", "^[1 < 2]") + ";");
            Texts.bad(1, GO_WHEN + test.replace("~", "^not 1 < 2") + ";");
            Texts.bad(1, GO_WHEN + test.replace("~", "^(1) < 2") + ";");
            Texts.bad(1, GO_WHEN + test.replace("~", "^-1 < 2") + ";");
            Texts.bad(1, GO_WHEN + test.replace("~", "1 < ^-2") + ";");
            Texts.bad(1, GO_WHEN + test.replace("~", "1 < 2 - ^(1)") + ";");
            Texts.bad(1, GO_WHEN + test.replace("~", "1 < min^(1, 2)") + ";");
        }
        // What else is wrong there, comes behind.
        Texts.bad(1, SPARE_BELOW + "((((((((^(");
        Texts.bad(1, SPARE_BELOW + "((((((((^-;");
        Texts.bad(1, SPARE_BELOW + "((((((((min^(;");
        Texts.bad(1, SPARE_BELOW + "((((((((min^;");
        Texts.bad(1, SPARE_BELOW + "((((((((^");
    }

    private static void errorOne() {
        Due.sentence(CHAPTER, "Error 1: the first token with which the tokens so far are not the beginning of a text.");
        Texts.bad(1, "^a");
        Texts.bad(1, "^ground1 room");
        Texts.bad(1, GROUND + "ground b room 1 ^room ? ?");
        Texts.bad(1, GROUND + "ground b ^; ground b ;");
        Due.sentence(CHAPTER, "This includes a byte with which no token begins, a word or number that is too long");
        Texts.bad(1, "^#");
        Texts.bad(1, "ground a room 1 fish 1^.5;");
        Texts.bad(1, "ground ^a1234567890 room 1 fish 1;");
        Texts.bad(1, "ground a room ^1234567 fish 1;");
        Texts.bad(1, "^abcdefghijk");
        Texts.bad(1, "^1234567");
        Due.sentence(CHAPTER, "The position is that of its first byte.");
        Texts.bad(1, "ground    ^12 room");
        Texts.bad(1, "ground  \n ^when room");
        Texts.bad(1, GO_WHEN + "1   ^and 2 < 3;");
        Texts.bad(1, GO_WHEN + "1 + 1   >= 2   ^>= 3;");
    }

    private static void endOfTheTape() {
        Due.sentence(CHAPTER, "the end of the tape (at its length)");
        String text = GROUND + FISHER + "go f to a when not [cheats f or 1 + -(2) < 3];pact p of f spare a below min(1,tide);";
        int lines = 0;
        for (int length = 0; length <= text.length(); length++) {
            String start = text.substring(0, length);
            boolean isWhole = start.isEmpty() || start.endsWith(";");
            boolean isInWord = length < text.length() && length > 0 && isWordSign(text.charAt(length))
                    && isWordSign(text.charAt(length - 1));
            if (isWhole) {
                Texts.good(start);
                Texts.good(start + " \n");
                lines++;
            } else if (!isInWord) {
                Texts.badAt(1, length, start);
                Texts.badAt(1, length + 3, start + " \n ");
            }
        }
        Due.same("lines of the text, and none", lines, 5);
    }

    private static boolean isWordSign(char sign) {
        return Character.isLetterOrDigit(sign);
    }

    /** SPARE_BELOW has 23 tokens; each number that is added has two more, the semicolon is one. */
    private static void tokenNumber401() {
        Due.sentence(CHAPTER, "the token that would be the 401st (the end of the tape not counted)");
        String most = SPARE_BELOW + "-1" + "+1".repeat(187);
        Texts.good(most + ";");
        Texts.good(most + ";  \n");
        Texts.bad(1, most.replace("-1", "--1") + "^;");
        Texts.bad(1, most + "+^1;");
        Texts.bad(1, most + ";^;");
        Texts.bad(1, most + ";  ^ground b room 1 fish 1;");
        Texts.bad(1, most + "; ^?");
        Texts.bad(1, most + "; ^abcdefghijklm");
        // The end is not counted, and is the error when 400 tokens are no text.
        Texts.bad(1, most.replace("-1", "--1") + "^");
        Texts.bad(1, most.replace("-1", "--1") + "  ^");
        // A token ahead of it may be the error, too.
        Texts.bad(1, SPARE_BELOW + "^;" + "1+".repeat(300));
        Texts.bad(1, SPARE_BELOW + "-1" + "+1".repeat(186) + "+^;;;");
        // 120 tokens of grounds, 9 of the fisher, 120 of goes, and 151 of the pact.
        String lines = Texts.lines("ground # room 1 fish 1, 1, 1, 1, 1;", 8) + FISHER + Texts.lines("go f to n1;", 24)
                + "pact p of f spare n1 below ";
        Texts.good(lines + "1" + "+1".repeat(71) + ";");
        Texts.bad(1, lines + "-1" + "+1".repeat(71) + "^;");
        Texts.bad(1, lines + "1" + "+1".repeat(71) + ";^go f to n1;");
        // An error of another kind ahead does not count.
        Texts.bad(1, most.replace("room 1", "room 9") + ";^;");
        Texts.bad(1, most.replace("mesh 1", "mesh 6") + "+^1 ? ?");
    }

    private static void errorOneAheadOfAll() {
        Due.sentence(CHAPTER, "Only if there is no error 1, keywords, names and numbers are looked at from left to right");
        Texts.bad(1, GROUND + GROUND + "^;");
        Texts.bad(1, "go f to a; go f to ^;");
        Texts.bad(1, "ground a room 1 fish 1, 2, 3, 4, 5, 6 ^room;");
        Texts.bad(1, "ground a room 0 fish 1^");
        Texts.bad(1, FISHER + "pact p of f, f ^below;");
        Texts.bad(1, "ground a room 0 fish 1; ^?");
        Texts.bad(1, GO_WHEN.replace("room 1", "room 0") + "((((((((^(1))))))))) < 2;");
    }

    private static void leftToRight() {
        Due.sentence(CHAPTER, "the first error is told, at its token");
        // Each error ahead of each other one; a ^ marks the place of the one ahead.
        String[] faults = {"ground ^t room 1 fish 1;", "go k to ^u;", "ground # room 1 fish 1, 1, 1, 1, 1, ^1;",
            "ground # room ^9 fish 1;", "pact # of k, ^k split;"};
        int[] errors = {2, 3, 4, 5, 6};
        String start = "ground t room 1 fish 1; fisher k mesh 1 net 1 hold 1;";
        for (int i = 0; i < faults.length; i++) {
            for (int k = 0; k < faults.length; k++) {
                String ahead = faults[i].replace("#", "x1");
                String behind = faults[k].replace("#", "x2").replace("^", "");
                Texts.bad(errors[i], start + ahead + behind);
            }
        }
        // Within one line.
        Texts.bad(2, GROUND + "ground ^a room 9 fish 100;");
        Texts.bad(5, "ground a room ^9 fish 100, 100;");
        Texts.bad(5, "fisher f mesh ^0 net 0 hold 0;");
        Texts.bad(5, "fisher f mesh 1 net ^0 hold 0;");
        Texts.bad(5, "ground a room 1 fish 1, ^100, 1, 1, 1, 1;");
        Texts.bad(3, "go ^f to a when cheats g;");
        Texts.bad(3, FISHER + "go f to ^a when cheats g;");
        Texts.bad(3, FISHER + "pact p of f, ^g, f split;");
        Texts.bad(6, FISHER + "pact p of f, ^f, g split;");
        Texts.bad(6, FISHER + "pact p of f, ^f spare a below fish a;");
        Texts.bad(3, FISHER + "pact p of f spare ^a below fish b;");
    }

    private static void smallestNumberAtOneToken() {
        Due.sentence(CHAPTER, "of errors at one token the one with the smallest number");
        Texts.bad(2, Texts.lines("ground # room 1 fish 1;", 8) + "ground ^n8 room 1 fish 1;");
        Texts.bad(2, Texts.lines("fisher # mesh 1 net 1 hold 1;", 8) + "fisher ^n1 mesh 1 net 1 hold 1;");
        Texts.bad(2, FISHER + Texts.lines("pact # of f split;", 6) + "pact ^n6 of f split;");
        Texts.bad(4, "ground a room 1 fish 1, 2, 3, 4, 5, ^100;");
        Texts.bad(4, "ground a room 1 fish 1, 2, 3, 4, 5, ^999999;");
        Texts.bad(3, FISHER + "pact p of f, ^g, g split;");
    }

    private static void errorTwo() {
        Due.sentence(CHAPTER, "Error 2: the name behind ground, fisher or pact is that of a ground, a fisher or a pact "
                + "(of the same sort) told ahead.");
        Texts.bad(2, GROUND + "ground ^a room 2 fish 2;");
        Texts.bad(2, GROUND + "ground b room 1 fish 1; ground c room 1 fish 1; ground ^b room 1 fish 1;");
        Texts.bad(2, FISHER + "fisher ^f mesh 1 net 9 hold 4;");
        Texts.bad(2, FISHER + "pact p of f split; pact ^p of f split;");
        Texts.bad(2, GROUND + FISHER + "pact p of f split; pact ^p of f spare a below 1;");
        // The same name of another sort.
        Texts.good("ground x room 1 fish 1; fisher x mesh 1 net 1 hold 1; pact x of x split;");
        Texts.good("fisher x mesh 1 net 1 hold 1; pact x of x split; ground x room 1 fish 1;");
        // A name of the text before may be told again.
        TideLots shore = Due.taught(GROUND + FISHER + "pact p of f split;");
        Due.same("the same text again", Due.teach(shore, GROUND + FISHER + "pact p of f split;"), 0);
        Due.same("a broken text", Due.teach(shore, "ground b room 1 fish 1; ground b"), 1);
        Due.same("a name of a broken text", Due.teach(shore, "ground b room 1 fish 1;"), 0);
    }

    private static void errorThree() {
        Due.sentence(CHAPTER, "Error 3: another name is none of what it has to be, told ahead: behind to, spare, boats, "
                + "and behind fish in a sum, of a ground, all others of a fisher.");
        // a is a ground alone, f a fisher, p a pact, and x is nothing.
        String start = GROUND + FISHER + "pact p of f split;";
        for (String name : new String[] {"f", "p", "x"}) {
            Texts.bad(3, start + "go f to ^" + name + ";");
            Texts.bad(3, start + "pact q of f spare ^" + name + " below 1;");
            Texts.bad(3, start + "pact q of f spare a below boats ^" + name + ";");
            Texts.bad(3, start + "pact q of f spare a below fish ^" + name + ";");
            Texts.bad(3, start + "go f to a when 1 < boats ^" + name + ";");
            Texts.bad(3, start + "go f to a when fish ^" + name + " < 1;");
        }
        for (String name : new String[] {"a", "p", "x"}) {
            Texts.bad(3, start + "go ^" + name + " to a;");
            Texts.bad(3, start + "pact q of ^" + name + " split;");
            Texts.bad(3, start + "pact q of f, ^" + name + " split;");
            Texts.bad(3, start + "pact q of ^" + name + " spare a below 1;");
            Texts.bad(3, start + "go f to a when cheats ^" + name + ";");
            for (String word : new String[] {"store", "catch", "mesh"}) {
                Texts.bad(3, start + "go f to a when " + word + " ^" + name + " < 1;");
                Texts.bad(3, start + "pact q of f spare a below 1 + " + word + " ^" + name + ";");
            }
        }
        Texts.good(start + "go f to a when cheats f and store f + catch f + mesh f < fish a + boats a;");
        Texts.good(start + "pact q of f spare a below store f + catch f + mesh f + fish a + boats a;");
    }

    private static void errorThreeToldBehind() {
        Due.sentence(CHAPTER, "another name is none of what it has to be, told ahead");
        Texts.bad(3, FISHER + "go f to ^a;" + GROUND);
        Texts.bad(3, GROUND + "go ^f to a;" + FISHER);
        Texts.bad(3, "pact p of ^f split;" + FISHER);
        Texts.bad(3, FISHER + "pact p of f spare ^a below 1;" + GROUND);
        Texts.bad(3, GROUND + FISHER + "go f to a when fish ^b < 1; ground b room 1 fish 1;");
        Texts.bad(3, GROUND + FISHER + "go f to a when cheats ^g; fisher g mesh 1 net 1 hold 1;");
        // What an earlier text told does not count, and what a broken one told even less.
        TideLots shore = Due.taught(GROUND + FISHER);
        Due.same("go to a ground of the text before", Due.teach(shore, FISHER + "go f to a;"), 3);
        Due.same("its place", shore.errorAt(), FISHER.length() + 8);
        Due.same("go to a ground of a broken text", Due.teach(shore, FISHER + "go f to a;"), 3);
    }

    private static void errorFour() {
        Due.sentence(CHAPTER, "Error 4: the name of the 9th ground, of the 9th fisher or of the 7th pact, the go of the "
                + "25th go, or the number of fish of a 6th size.");
        String grounds = Texts.lines("ground # room 1 fish 1;", 8);
        String fishers = Texts.lines("fisher # mesh 1 net 1 hold 1;", 8);
        String pacts = Texts.lines("pact # of n1 split;", 6);
        String goes = Texts.lines("go n1 to n1;", 24);
        TideLots shore = Due.taught(grounds + fishers + pacts + goes);
        Due.same("grounds", shore.count(1), 8);
        Due.same("fishers", shore.count(2), 8);
        Due.same("goes", shore.count(3), 24);
        Due.same("pacts", shore.count(4), 6);
        Texts.bad(4, grounds + "ground ^n9 room 1 fish 1;");
        Texts.bad(4, grounds + "ground ^n9 room 9 fish 1;");
        Texts.bad(4, fishers + "fisher ^n9 mesh 1 net 1 hold 1;");
        Texts.bad(4, grounds + fishers + pacts + "pact ^n7 of n1 split;");
        Texts.bad(4, grounds + fishers + pacts + "pact ^n7 of n9 spare n1 below 1;");
        Texts.bad(4, grounds + fishers + goes + "^go n1 to n1;");
        Texts.bad(4, grounds + fishers + goes + "^go n9 to n1;");
        Texts.bad(4, grounds + fishers + pacts + goes + "^go n1 to n1; go n1 to n1;");
        Texts.good("ground a room 1 fish 1, 2, 3, 4, 5;");
        Texts.bad(4, "ground a room 1 fish 1, 2, 3, 4, 5, ^6;");
        Texts.bad(4, "ground a room 1 fish 0, 0, 0, 0, 0, ^0, 0, 0;");
        Texts.bad(4, "ground a room 1 fish 1; ground b room 1 fish 1, 2, 3, 4, 5, ^6;");
        // Of each ground the sizes are counted anew.
        Texts.good("ground a room 1 fish 1, 2, 3, 4, 5; ground b room 1 fish 1, 2, 3, 4, 5;");
        // The text before is not counted.
        Due.same("the same text again", Due.teach(shore, grounds + fishers + pacts + goes), 0);
    }

    private static void range(String text, int least, int most) {
        Texts.good(text.replace("^#", "" + least));
        Texts.good(text.replace("^#", "" + most));
        Texts.good(text.replace("^#", "0000" + most));
        Texts.bad(5, text.replace("#", "" + (most + 1)));
        Texts.bad(5, text.replace("#", "999999"));
        // 256 and 65536 more
        Texts.bad(5, text.replace("#", "" + (256 + least)));
        Texts.bad(5, text.replace("#", "" + (65536 + least)));
        if (least > 0) {
            Texts.bad(5, text.replace("#", "" + (least - 1)));
            Texts.bad(5, text.replace("#", "000000"));
        }
    }

    private static void errorFive() {
        Due.sentence(CHAPTER, "Error 5: a number is out of its range: room 1 to 8, each number of fish 0 to 99, "
                + "mesh 1 to 5, net 1 to 99, hold 1 to 40.");
        range("ground a room ^# fish 1;", 1, 8);
        range("ground a room 1 fish ^#;", 0, 99);
        range("ground a room 1 fish 1, ^#;", 0, 99);
        range("ground a room 1 fish 1, 1, ^#;", 0, 99);
        range("ground a room 1 fish 1, 1, 1, ^#, 1;", 0, 99);
        range("ground a room 1 fish 1, 1, 1, 1, ^#;", 0, 99);
        range("fisher f mesh ^# net 1 hold 1;", 1, 5);
        range("fisher f mesh 1 net ^# hold 1;", 1, 99);
        range("fisher f mesh 1 net 1 hold ^#;", 1, 40);
        // A number of a sum has no range.
        Texts.good(GO_WHEN + "0 < 999999;");
        Texts.good(SPARE_BELOW + "999999 * 0 - 999999;");
    }

    private static void errorSix() {
        Due.sentence(CHAPTER, "Error 6: a fisher stands twice in the names of one pact.");
        String fishers = Texts.lines("fisher # mesh 1 net 1 hold 1;", 8);
        Texts.good(fishers + "pact p of n1, n2, n3, n4, n5, n6, n7, n8 split;");
        Texts.bad(6, fishers + "pact p of n1, ^n1 split;");
        Texts.bad(6, fishers + "pact p of n1, n2, n3, n4, n5, n6, n7, n8, ^n1 split;");
        Texts.bad(6, fishers + "pact p of n1, n2, n3, n4, n5, n6, n7, n8, ^n8 split;");
        Texts.bad(6, fishers + "pact p of n4, n2, ^n2, n4 split;");
        Texts.bad(6, GROUND + fishers + "pact p of n4, n2, ^n4 spare a below 1;");
        // In another pact it may stand again.
        Texts.good(GROUND + fishers + "pact p of n1, n2 split; pact q of n2, n1 split; pact r of n1 spare a below 1;");
        Texts.bad(6, fishers + "pact p of n1, n2 split; pact q of n2, n1, ^n2 split;");
    }

    private static void numberedAsTold() {
        Due.sentence(CHAPTER, "Grounds, fishers and pacts are numbered from 0 in the order in which they are told.");
        TideLots shore = Due.taught("fisher z mesh 3 net 11 hold 12; ground y room 4 fish 5; fisher b mesh 2 net 21 hold 22;"
                + "ground c room 6 fish 7; pact w of b, z split; fisher a mesh 1 net 31 hold 32; ground a room 8 fish 9;"
                + "pact d of a spare c below 1;");
        int[] rooms = {4, 6, 8};
        int[] nets = {11, 21, 31};
        for (int i = 0; i < 3; i++) {
            Due.same("the room of the ground " + i, shore.ground(i, 6), rooms[i]);
            Due.same("the fish of the ground " + i, shore.ground(i, 1), 5 + 2 * i);
            Due.same("the mesh of the fisher " + i, shore.fisher(i, 1), 3 - i);
            Due.same("the net of the fisher " + i, shore.fisher(i, 2), nets[i]);
            Due.same("the hold of the fisher " + i, shore.fisher(i, 3), nets[i] + 1);
        }
        Due.same("the first one of the pact 0", shore.pact(0, 3), 1);
        Due.same("the first one of the pact 1", shore.pact(1, 3), 2);
        Due.same("the ground of the pact 1", shore.pact(1, 1), 1);
    }
}
