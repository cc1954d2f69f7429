/** The edges of the tape, the tokens and the grammar that the chapter "1. The language" names, sentence by sentence. */
public final class EdgesOfLanguageTest {
    private static final String CHAPTER = "1. The language";
    private static final String GROUND = Texts.GROUND;
    private static final String FISHER = Texts.FISHER;
    private static final String GO_WHEN = Texts.GO_WHEN;
    private static final String SPARE_BELOW = Texts.SPARE_BELOW;
    private static final String[] KEYWORDS = {"ground", "room", "fish", "fisher", "mesh", "net", "hold", "go", "to",
        "when", "pact", "of", "split", "spare", "below", "tide", "store", "catch", "boats", "cheats", "not", "and",
        "or", "min", "max"};

    public static void main(String[] args) {
        fullTape();
        emptyBehindTeach();
        blanks();
        otherBytesAreNoBlanks();
        blanksBetweenTokens();
        longestToken();
        words();
        everyByteOfAWord();
        numbers();
        symbols();
        keywords();
        linesOfATextAndOfGrounds();
        linesOfFishersGoesAndPacts();
        tests();
        sums();
        unfinishedLines();
        Due.end("EdgesOfLanguageTest");
    }

    private static String withNumber(String number) {
        return "ground a room 1 fish " + number + ";";
    }

    private static void fullTape() {
        Due.sentence(CHAPTER, "The tape is a row of at most 2000 bytes, at first empty");
        Due.same("bytes at first", new TideLots().count(9), 0);
        Texts.good("");
        String open = withNumber("1").replace(";", "");
        String blanks = " ".repeat(1999 - open.length());
        Texts.good(open + ";" + blanks);
        Texts.good(blanks + open + ";");
        Texts.badAt(1, 1999, blanks + open + "?");
        Texts.badAt(1, 2000, blanks + " " + open);
        Texts.badAt(2, 2000 - "a room 1 fish 1;".length(), blanks.substring(open.length() + 1) + open + ";" + open + ";");
    }

    private static void emptyBehindTeach() {
        Due.sentence(CHAPTER, "teach reads it as a text, and it is empty behind it");
        TideLots shore = new TideLots();
        String[] texts = {GROUND, "", "?", GROUND + GROUND, "go f to a;", GROUND + GROUND + ";",
            "ground a room 1 fish 1, 1, 1, 1, 1, 1;", "ground a room 0 fish 1;", FISHER + "pact p of f, f split;"};
        int[] due = {0, 0, 1, 2, 3, 1, 4, 5, 6};
        for (int i = 0; i < texts.length; i++) {
            Due.same("teach of " + texts[i], Due.teach(shore, texts[i]), due[i]);
            Due.same("bytes behind " + texts[i], shore.count(9), 0);
            // What comes next is at the beginning of the tape.
            Due.same("feed behind " + texts[i], shore.feed(0x3f202020, -1, -1, -1, -1), 20);
            Due.same("teach of what is fed next", shore.teach(), 1);
            Due.same("errorAt of what is fed next", shore.errorAt(), 0);
        }
    }

    private static void blanks() {
        Due.sentence(CHAPTER, "Blanks (32) and line ends (10) can stand between tokens, at the beginning and at the end");
        Texts.good(" ");
        Texts.good("\n");
        Texts.good(" \n \n\n  ");
        Texts.good(" " + GROUND);
        Texts.good("\n" + GROUND);
        Texts.good(GROUND + " ");
        Texts.good(GROUND + "\n");
        Texts.good("\n\nground\na\nroom\n1\nfish\n1\n,\n2\n;\n\n");
        Texts.good("  ground  a  room  1  fish  1  ,  2  ;  ");
        Texts.good(GO_WHEN + " [ 1 < 2 ] and ( 1 ) <= min ( 2 , 3 ) ;");
        Texts.bad(1, GO_WHEN + "1 < ^= 2;");
        Texts.bad(1, GO_WHEN + "1 >\n^= 2;");
        Texts.bad(1, GROUND + "ground b room 1 fish 1 ^1;");
        Texts.bad(1, "^gr ound a room 1 fish 1;");
    }

    private static void otherBytesAreNoBlanks() {
        Due.sentence(CHAPTER, "Blanks (32) and line ends (10) can stand between tokens, at the beginning and at the end");
        for (char sign = 0; sign < 256; sign++) {
            if (sign == 32 || sign == 10) {
                Texts.good(sign + GROUND);
                Texts.good(GROUND + sign);
                Texts.good("ground a " + sign + " room 1 fish 1;");
            } else {
                Texts.badAt(1, 0, sign + " " + GROUND);
                Texts.badAt(1, GROUND.length() + (isPartOfWord(sign) ? 1 : 0),
                        GROUND + (isPartOfWord(sign) ? " " : "") + sign);
                Texts.badAt(1, 9, "ground a " + sign + " room 1 fish 1;");
            }
        }
    }

    private static boolean isPartOfWord(char sign) {
        return sign >= 'a' && sign <= 'z' || sign >= '0' && sign <= '9';
    }

    private static void blanksBetweenTokens() {
        Due.sentence(CHAPTER, "have to stand between two tokens that would otherwise be read as one");
        Texts.bad(1, "^grounda room 1 fish 1;");
        Texts.bad(1, "ground aroom ^1 fish 1;");
        Texts.bad(1, "ground a ^room1 fish 1;");
        Texts.bad(1, "ground a room 1 ^fish1;");
        Texts.bad(1, GROUND + FISHER + "go f ^toa;");
        Texts.bad(1, GROUND + FISHER + "pact p ^off split;");
        Texts.bad(1, GO_WHEN + "^notcheats f;");
        Texts.bad(1, GO_WHEN + "1 < 2 ^and1 < 2;");
        Texts.bad(1, GO_WHEN + "^fisha < 2;");
        // These are not read as one.
        Texts.good("ground a room 1fish 2,3;fisher f mesh 1net 9hold 4;go f to a when 1<2and 2<3or 3<4;");
        Texts.good("ground\na room\n1fish 1;");
        Texts.good(GO_WHEN + "1<-1;");
        Texts.good(GO_WHEN + "1<=--1;");
        Texts.good(GO_WHEN + "not[not[1<2]];");
        Texts.good(SPARE_BELOW + "min(1,2)*-max(3,4);");
    }

    private static void longestToken() {
        Due.sentence(CHAPTER, "The longest possible token is always read.");
        // Names that begin with a keyword, and numbers of more than one digit.
        Texts.good("ground grounds room 1 fish 1; ground fish1 room 1 fish 1; ground orr room 1 fish 1;");
        TideLots shore = Due.taught(withNumber("98"));
        Due.same("fish of 98", shore.ground(0, 1), 98);
        Texts.bad(5, "ground a room 1 fish ^999999;");
        Texts.bad(1, "ground ^abcdefghijk room 1 fish 1;");
        Texts.bad(1, "ground ^abcdefghijroom 1 fish 1;");
        Texts.bad(1, "ground a room 1 fish ^1234567;");
        Texts.good(GO_WHEN + "1 <= 2 and 2 >= 1;");
        Texts.bad(1, GO_WHEN + "1 <=^= 2;");
        Texts.bad(1, GO_WHEN + "1 <^> 2;");
        Texts.bad(1, GO_WHEN + "1 =^< 2;");
        Texts.bad(1, GO_WHEN + "1 =^> 2;");
        Texts.bad(1, GO_WHEN + "1 <^< 2;");
    }

    private static void words() {
        Due.sentence(CHAPTER, "A word: a letter a to z, followed by letters a to z and digits, at most 10 bytes.");
        for (String name : new String[] {"a", "z", "a0", "z9", "az09za90", "abcdefghij", "z999999999", "a000000000"}) {
            Texts.good("ground " + name + " room 1 fish 1;");
            Texts.good("fisher " + name + " mesh 1 net 1 hold 1; pact " + name + " of " + name + " split;");
        }
        Texts.bad(1, "ground ^abcdefghijk room 1 fish 1;");
        Texts.bad(1, "ground ^a0000000000 room 1 fish 1;");
        Texts.bad(1, "ground ^" + "a".repeat(1990));
        Texts.bad(1, "ground ^0a room 1 fish 1;");
        Texts.bad(1, "ground ^9a room 1 fish 1;");
        for (char sign : "`{@[ZA/:_.\u00e1\u00fa\u00ff\u0000\u007f\u0080".toCharArray()) {
            Texts.bad(1, "ground ^" + sign + " room 1 fish 1;");
            Texts.bad(1, "ground a^" + sign + " room 1 fish 1;");
        }
        // All bytes of a word count, the tenth one, too.
        Texts.good("ground abcdefghi1 room 1 fish 1; ground abcdefghi2 room 1 fish 1; ground abcdefghi room 1 fish 1;");
        Texts.good("ground bbcdefghij room 1 fish 1; ground abcdefghij room 1 fish 1; ground a room 1 fish 1;");
        Texts.good("ground a room 1 fish 1; ground a0 room 1 fish 1; ground a00 room 1 fish 1; ground a1 room 1 fish 1;");
        Texts.good("ground zz room 1 fish 1; ground z9 room 1 fish 1; ground z room 1 fish 1; ground aaz room 1 fish 1;");
        Texts.bad(2, "ground abcdefghij room 1 fish 1; ground ^abcdefghij room 1 fish 1;");
        Texts.bad(3, "fisher abcdefghij mesh 1 net 1 hold 1; pact p of ^abcdefghi split;");
    }

    private static void everyByteOfAWord() {
        Due.sentence(CHAPTER, "A word: a letter a to z, followed by letters a to z and digits, at most 10 bytes.");
        String signs = "abcdefghijklmnopqrstuvwxyz0123456789";
        for (int i = 0; i < signs.length(); i++) {
            for (int k = 0; k < i; k++) {
                different("b" + signs.charAt(i), "b" + signs.charAt(k));
                different("abcdefghi" + signs.charAt(i), "abcdefghi" + signs.charAt(k));
                different("x" + signs.charAt(i) + signs.charAt(k), "x" + signs.charAt(k) + signs.charAt(i));
                if (signs.charAt(i) >= 'a') {
                    different(signs.charAt(i) + "23456789z", (signs.charAt(k) >= 'a' ? signs.charAt(k) : 'a') + "23456789y");
                }
            }
            different("b" + signs.charAt(i), "az");
            different("b" + signs.charAt(i), "a9");
            different("a" + signs.charAt(i), "a");
            different("a" + signs.charAt(i) + signs.charAt(i), "a" + signs.charAt(i));
        }
        // Words that are one number, if it is cut to 32 bits: to the base of 37, and to that of hashCode().
        different("wafvkrxycu", "fjzgcldyli");
        different("ffjsxpjmpb", "yubzymtbpl");
        different("xozsgjbm", "gjpjltng");
        different("pshtxpju", "ezkgkgsx");
    }

    /** They are the names of two grounds, and each one is found again. */
    private static void different(String name, String other) {
        TideLots shore = Due.taught("ground " + name + " room 1 fish 1; ground " + other + " room 1 fish 2;"
                + "fisher f mesh 1 net 9 hold 9; fisher g mesh 1 net 9 hold 9; go f to " + name + "; go g to " + other + ";");
        shore.pass(1);
        Due.same(name + " as a ground", shore.fisher(0, 6), 0);
        Due.same(other + " as a ground", shore.fisher(1, 6), 1);
    }

    private static void numbers() {
        Due.sentence(CHAPTER, "A number: 1 to 6 digits.");
        for (String zero : new String[] {"0", "00", "000000"}) {
            Due.same("fish of " + zero, Due.taught(withNumber(zero)).ground(0, 1), 0);
        }
        Due.same("fish of 000099", Due.taught(withNumber("000099")).ground(0, 1), 99);
        Due.same("fish of 10", Due.taught(withNumber("10")).ground(0, 1), 10);
        Texts.bad(1, "ground a room 1 fish ^0000000;");
        Texts.bad(1, "ground a room 1 fish ^0000001;");
        Texts.bad(1, "ground a room 1 fish 1, ^1000000;");
        Texts.bad(1, "ground a room ^" + "1".repeat(1985));
        Texts.bad(5, "ground a room 1 fish ^100000;");
        Texts.good(SPARE_BELOW + "0 + 9 + 99 + 999 + 9999 + 99999 + 999999;");
        Texts.bad(1, SPARE_BELOW + "^1000000;");
        // Too great for 32 and for 64 bits, and again a small one when cut.
        Texts.bad(1, SPARE_BELOW + "^4294967297;");
        Texts.bad(1, SPARE_BELOW + "^18446744073709551617;");
    }

    private static void symbols() {
        Due.sentence(CHAPTER, "Symbols: ( ) [ ] ; , + - * / < > = <= >=");
        Texts.good(GO_WHEN + "[(1)+min(2,3)-4*5/6<7];");
        for (String sign : new String[] {"<", ">", "=", "<=", ">="}) {
            Texts.good(GO_WHEN + "1" + sign + "2;");
            Texts.bad(1, GO_WHEN + "^" + sign + "2;");
        }
        for (char sign = 33; sign < 256; sign++) {
            if ("<>=+-*/".indexOf(sign) >= 0) {
                Texts.good(GO_WHEN + "1 " + sign + " 2" + ("<>=".indexOf(sign) >= 0 ? ";" : " < 3;"));
            } else {
                Texts.badAt(1, GO_WHEN.length() + 2, GO_WHEN + "1 " + sign + " 2 < 3;");
            }
        }
    }

    private static void keywords() {
        Due.sentence(CHAPTER, "The keywords are: ground room fish fisher mesh net hold go to when pact of split spare "
                + "below tide store catch boats cheats not and or min max. All other words are names.");
        for (String word : KEYWORDS) {
            Texts.bad(1, "ground ^" + word + " room 1 fish 1;");
            Texts.bad(1, "fisher ^" + word + " mesh 1 net 1 hold 1;");
            Texts.bad(1, FISHER + "pact ^" + word + " of f split;");
            Texts.bad(1, GROUND + FISHER + "go ^" + word + " to a;");
            Texts.bad(1, FISHER + "pact p of ^" + word + " split;");
            for (String name : new String[] {word + "s", word + "1", "x" + word, word.substring(1) + "x"}) {
                Texts.good("ground " + name + " room 1 fish 1;");
                Texts.good("fisher " + name + " mesh 1 net 1 hold 1; pact " + name + " of " + name + " split;");
            }
            Texts.good("ground " + word.substring(0, word.length() - 1) + " room 1 fish 1;");
        }
    }

    private static void linesOfATextAndOfGrounds() {
        Due.sentence(CHAPTER, "text = { line \";\" }");
        Texts.good("");
        Texts.good(GROUND);
        Texts.good(GROUND + FISHER + "go f to a;" + "pact p of f split;");
        Texts.bad(1, "^;");
        Texts.bad(1, GROUND + "^;");
        Texts.bad(1, "ground a room 1 fish 1^");
        Texts.bad(1, "ground a room 1 fish 1 \n^");
        Texts.bad(1, "ground a room 1 fish 1 ^ground b room 1 fish 1;");
        Texts.bad(1, GROUND + "^a;");
        Texts.bad(1, GROUND + "^1;");
        Texts.bad(1, GROUND + "^room;");
        Due.sentence(CHAPTER, "\"ground\" name \"room\" number \"fish\" number { \",\" number }");
        Texts.bad(1, "ground^");
        Texts.bad(1, "ground ^;");
        Texts.bad(1, "ground a^;");
        Texts.bad(1, "ground a ^fish 1;");
        Texts.bad(1, "ground a room^;");
        Texts.bad(1, "ground a room ^-1 fish 1;");
        Texts.bad(1, "ground a room ^b fish 1;");
        Texts.bad(1, "ground a room 1^;");
        Texts.bad(1, "ground a room 1 fish^;");
        Texts.bad(1, "ground a room 1 fish ^-1;");
        Texts.bad(1, "ground a room 1 fish ^,1;");
        Texts.bad(1, "ground a room 1 fish 1,^;");
        Texts.bad(1, "ground a room 1 fish 1,^,1;");
        Texts.bad(1, "ground a room 1 fish 1 ^+ 1;");
        Texts.good("ground a room 1 fish 1,2,3,4,5;");
    }

    private static void linesOfFishersGoesAndPacts() {
        Due.sentence(CHAPTER, "\"fisher\" name \"mesh\" number \"net\" number \"hold\" number");
        Texts.bad(1, "fisher ^mesh 1 net 1 hold 1;");
        Texts.bad(1, "fisher f ^net 1 mesh 1 hold 1;");
        Texts.bad(1, "fisher f mesh ^net 1 hold 1;");
        Texts.bad(1, "fisher f mesh 1 ^hold 1;");
        Texts.bad(1, "fisher f mesh 1 net ^hold 1;");
        Texts.bad(1, "fisher f mesh 1 net 1^;");
        Texts.bad(1, "fisher f mesh 1 net 1 hold^;");
        Texts.bad(1, "fisher f mesh 1 net 1 hold 1^, 1;");
        Due.sentence(CHAPTER, "\"go\" name \"to\" name [ \"when\" test ]");
        Texts.good(GROUND + FISHER + "go f to a;");
        Texts.good(GO_WHEN + "1 < 2;");
        Texts.bad(1, GROUND + FISHER + "go ^to a;");
        Texts.bad(1, GROUND + FISHER + "go f ^a;");
        Texts.bad(1, GROUND + FISHER + "go f to^;");
        Texts.bad(1, GROUND + FISHER + "go f to a^, a;");
        Texts.bad(1, GO_WHEN + "^;");
        Texts.bad(1, GO_WHEN + "1 < 2 ^when 1 < 2;");
        Due.sentence(CHAPTER, "\"pact\" name \"of\" name { \",\" name } ( \"split\" | \"spare\" name \"below\" sum )");
        Texts.good(FISHER + "pact p of f split;");
        Texts.good(SPARE_BELOW + "1;");
        Texts.bad(1, FISHER + "pact ^of f split;");
        Texts.bad(1, FISHER + "pact p ^f split;");
        Texts.bad(1, FISHER + "pact p of ^split;");
        Texts.bad(1, FISHER + "pact p of f^;");
        Texts.bad(1, FISHER + "pact p of f, ^split;");
        Texts.bad(1, FISHER + "pact p of f ^f split;");
        Texts.bad(1, GROUND + FISHER + "pact p of f ^below 1;");
        Texts.bad(1, GROUND + FISHER + "pact p of f spare ^below 1;");
        Texts.bad(1, GROUND + FISHER + "pact p of f spare a^;");
        Texts.bad(1, GROUND + FISHER + "pact p of f spare a ^1;");
        Texts.bad(1, SPARE_BELOW + "^;");
        Texts.bad(1, SPARE_BELOW + "1 ^split;");
        Texts.bad(1, FISHER + "pact p of f split ^spare f below 1;");
    }

    /** A line may end behind each |, and behind none of the other tokens. */
    private static void unfinishedLines() {
        Due.sentence(CHAPTER, "text = { line \";\" }");
        String[] lines = {
            "ground b room 1 fish 1 | , 2 | , 3 |",
            "fisher g mesh 1 net 1 hold 1 |",
            "go f to a | when tide < 1 | and 1 + 2 * 3 >= 4 | - mesh f | / 5 | or not cheats f |",
            "go f to a | when [ 1 < tide or not cheats f ] | and min ( 1 , - 2 ) >= ( fish a ) | + boats a | * - catch f |",
            "pact p of f , k spare a below max ( 1 , store f ) | * 2 | + tide |",
            "pact p of f , k split |",
        };
        String start = GROUND + FISHER + "fisher k mesh 1 net 1 hold 1;";
        for (String line : lines) {
            StringBuilder read = new StringBuilder(start);
            boolean mayEnd = false;
            for (String token : line.split(" ")) {
                if (token.equals("|")) {
                    Texts.good(read + ";");
                    Texts.badAt(1, read.length(), read.toString());
                    mayEnd = true;
                } else {
                    if (!mayEnd) {
                        Texts.badAt(1, read.length(), read + ";");
                    }
                    read.append(token).append(' ');
                    mayEnd = false;
                }
            }
        }
    }

    private static void tests() {
        Due.sentence(CHAPTER, "test = both { \"or\" both } both = single { \"and\" single }");
        Texts.good(GO_WHEN + "1<2 or 1<2 or 1<2 and 1<2 and 1<2 or 1<2;");
        Texts.bad(1, GO_WHEN + "^or 1<2;");
        Texts.bad(1, GO_WHEN + "1<2 or^;");
        Texts.bad(1, GO_WHEN + "1<2 or ^and 1<2;");
        Texts.bad(1, GO_WHEN + "1<2 and^;");
        Texts.bad(1, GO_WHEN + "1<2 ^1<2;");
        Texts.bad(1, GO_WHEN + "1 ^or 2;");
        Due.sentence(CHAPTER, "single = \"not\" single | \"[\" test \"]\" | \"cheats\" name | "
                + "sum ( \"<\" | \">\" | \"=\" | \"<=\" | \">=\" ) sum");
        Texts.good(GO_WHEN + "not not [cheats f or not 1<2];");
        Texts.bad(1, GO_WHEN + "not^;");
        Texts.bad(1, GO_WHEN + "not 1^;");
        Texts.bad(1, GO_WHEN + "[^];");
        Texts.bad(1, GO_WHEN + "[1<2^;");
        Texts.bad(1, GO_WHEN + "[1<2^);");
        Texts.bad(1, GO_WHEN + "1<2^];");
        Texts.bad(1, GO_WHEN + "[1^]<2;");
        Texts.bad(1, GO_WHEN + "[1<2]^<2;");
        Texts.bad(1, GO_WHEN + "cheats^;");
        Texts.bad(1, GO_WHEN + "cheats ^[f];");
        Texts.bad(1, GO_WHEN + "cheats f^<1;");
        Texts.bad(1, GO_WHEN + "1^;");
        Texts.bad(1, GO_WHEN + "1<^;");
        Texts.bad(1, GO_WHEN + "1<2^<3;");
        Texts.bad(1, GO_WHEN + "1<^cheats f;");
        Texts.bad(1, GO_WHEN + "(1^<2);");
        Texts.bad(1, GO_WHEN + "(^cheats f);");
        Texts.bad(1, GO_WHEN + "(^not 1<2);");
    }

    private static void sums() {
        Due.sentence(CHAPTER, "sum = product { ( \"+\" | \"-\" ) product } product = value { ( \"*\" | \"/\" ) value }");
        Texts.good(SPARE_BELOW + "1+2-3*4/5*6+7;");
        Texts.bad(1, SPARE_BELOW + "1+^;");
        Texts.bad(1, SPARE_BELOW + "1-^+1;");
        Texts.bad(1, SPARE_BELOW + "1*^;");
        Texts.bad(1, SPARE_BELOW + "1*^/1;");
        Texts.bad(1, SPARE_BELOW + "1/^*1;");
        Texts.bad(1, SPARE_BELOW + "^*1;");
        Texts.bad(1, SPARE_BELOW + "1 ^2;");
        Texts.bad(1, SPARE_BELOW + "1^<2;");
        Texts.bad(1, SPARE_BELOW + "^[1];");
        Texts.bad(1, SPARE_BELOW + "^cheats f;");
        Texts.bad(1, SPARE_BELOW + "^not 1;");
        Due.sentence(CHAPTER, "value = number | \"tide\" | ( \"store\" | \"catch\" | \"mesh\" ) name | "
                + "( \"fish\" | \"boats\" ) name | \"-\" value | \"(\" sum \")\" | ( \"min\" | \"max\" ) \"(\" sum \",\" sum \")\"");
        Texts.good(SPARE_BELOW + "1+tide+store f+catch f+mesh f+fish a+boats a+-1+(1)+min(1,2)+max(1+1,2*2);");
        Texts.bad(1, SPARE_BELOW + "^f;");
        Texts.bad(1, SPARE_BELOW + "tide ^f;");
        for (String word : new String[] {"store", "catch", "mesh", "fish", "boats"}) {
            Texts.bad(1, SPARE_BELOW + word + "^;");
            Texts.bad(1, SPARE_BELOW + word + " ^1;");
            Texts.bad(1, SPARE_BELOW + word + "^(a);");
        }
        for (String word : new String[] {"room", "net", "hold", "ground", "fisher"}) {
            Texts.bad(1, SPARE_BELOW + "^" + word + " f;");
        }
        Texts.bad(1, SPARE_BELOW + "^+1;");
        Texts.bad(1, SPARE_BELOW + "-^;");
        Texts.bad(1, SPARE_BELOW + "(^);");
        Texts.bad(1, SPARE_BELOW + "(1^;");
        Texts.bad(1, SPARE_BELOW + "(1^];");
        Texts.bad(1, SPARE_BELOW + "1^);");
        Texts.bad(1, SPARE_BELOW + "(1^,2);");
        for (String word : new String[] {"min", "max"}) {
            Texts.bad(1, SPARE_BELOW + word + "^;");
            Texts.bad(1, SPARE_BELOW + word + " ^1,2;");
            Texts.bad(1, SPARE_BELOW + word + "(^);");
            Texts.bad(1, SPARE_BELOW + word + "(1^);");
            Texts.bad(1, SPARE_BELOW + word + "(1,^);");
            Texts.bad(1, SPARE_BELOW + word + "(1,2^,3);");
            Texts.bad(1, SPARE_BELOW + word + "(1,2^;");
            Texts.bad(1, SPARE_BELOW + word + "^[1,2];");
        }
    }
}
