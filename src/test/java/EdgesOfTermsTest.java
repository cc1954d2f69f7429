/** The edges that the chapter "Terms" names: wrap-around, division, positions, and the time. */
public final class EdgesOfTermsTest {
    private static final int MIN = Integer.MIN_VALUE;
    private static final int MAX = Integer.MAX_VALUE;
    private static final String WRAPS = "sums, differences and products of the language wrap around in 32 bits";
    private static final String MOST = literal(MAX);
    private static final String LEAST = literal(MIN);

    public static void main(String[] args) {
        sumsWrap();
        differencesWrap();
        productsWrap();
        turnedNumbersWrap();
        wrapInPacts();
        comparisonsDoNotWrap();
        cutTowardsZero();
        byZero();
        leastByMinusOne();
        positions();
        time();
        Due.end("EdgesOfTermsTest");
    }

    /** A sum that is this number, made of steps that do not wrap. */
    private static String literal(int number) {
        int high = number >> 16;
        return "(" + (high < 0 ? "-" + -high : "" + high) + " * 65536 + " + (number & 65535) + ")";
    }

    private static boolean holds(String test) {
        TideLots shore = Due.taught("ground a room 1 fish 0; fisher f mesh 1 net 1 hold 1; go f to a when " + test + ";");
        shore.pass(1);
        return shore.fisher(0, 6) == 0;
    }

    private static void is(String sum, int due) {
        Due.isTrue(sum + " = " + due, holds(sum + " = " + literal(due)));
        Due.isTrue(sum + " is not less than " + due, !holds(sum + " < " + literal(due)));
        Due.isTrue(sum + " is not greater than " + due, !holds(sum + " > " + literal(due)));
    }

    private static void sumsWrap() {
        Due.sentence("Terms", WRAPS);
        is(MOST, MAX);
        is(LEAST, MIN);
        is(MOST + " + 0", MAX);
        is(MOST + " + 1", MIN);
        is(LEAST + " + -1", MAX);
        is(MOST + " + " + MOST, -2);
        is(LEAST + " + " + LEAST, 0);
        is(MOST + " + 1 - 1", MAX);
        is(MOST + " + " + LEAST, -1);
    }

    private static void differencesWrap() {
        Due.sentence("Terms", WRAPS);
        is(LEAST + " - 0", MIN);
        is(LEAST + " - 1", MAX);
        is(MOST + " - -1", MIN);
        is("0 - " + LEAST, MIN);
        is("-1 - " + LEAST, MAX);
        is(LEAST + " - " + MOST, 1);
        is(MOST + " - " + LEAST, -1);
    }

    private static void productsWrap() {
        Due.sentence("Terms", WRAPS);
        is("46340 * 46340", 2147395600);
        is("46341 * 46341", -2147479015);
        is("32768 * 65535", 2147450880);
        is("32768 * 65536", MIN);
        is("65536 * 65536", 0);
        is("999999 * 999999", 999999 * 999999);
        is("999999 * 999999 * 999999", 999999 * 999999 * 999999);
        is(MOST + " * 2", -2);
        is(MOST + " * " + MOST, 1);
        is(LEAST + " * -1", MIN);
        is(LEAST + " * " + LEAST, 0);
    }

    private static void turnedNumbersWrap() {
        Due.sentence("Terms", WRAPS);
        is("-" + MOST, -MAX);
        is("-" + LEAST, MIN);
        is("- -" + LEAST, MIN);
        is("-(" + LEAST + " + 1)", MAX);
        is("-0", 0);
    }

    /** 0 fish are fewer than a sum, just if it is above 0. */
    private static void wrapInPacts() {
        Due.sentence("Terms", WRAPS);
        Due.isTrue("spared below 2147483647", isSpared(MOST));
        Due.isTrue("not spared below 2147483647 + 1", !isSpared(MOST + " + 1"));
        Due.isTrue("not spared below -2147483648", !isSpared(LEAST));
        Due.isTrue("spared below -2147483648 - 1", isSpared(LEAST + " - 1"));
        Due.isTrue("not spared below 65536 * 65536", !isSpared("65536 * 65536"));
        Due.isTrue("not spared below 65536 * 32768", !isSpared("65536 * 32768"));
        Due.isTrue("spared below 1 - 65536 * 65536", isSpared("1 - 65536 * 65536"));
    }

    private static boolean isSpared(String sum) {
        TideLots shore = Due.taught("ground a room 1 fish 0; fisher f mesh 1 net 1 hold 1; go f to a;"
                + "pact p of f spare a below " + sum + ";");
        shore.pass(1);
        return shore.fisher(0, 6) < 0;
    }

    private static void comparisonsDoNotWrap() {
        Due.sentence("Terms", "All numbers are whole");
        Due.isTrue("the least < the most", holds(LEAST + " < " + MOST));
        Due.isTrue("the least <= the most", holds(LEAST + " <= " + MOST));
        Due.isTrue("the most > the least", holds(MOST + " > " + LEAST));
        Due.isTrue("the most >= the least", holds(MOST + " >= " + LEAST));
        Due.isTrue("not the least > 1", !holds(LEAST + " > 1"));
        Due.isTrue("not the most < -2", !holds(MOST + " < -2"));
        is("min(" + LEAST + ", " + MOST + ")", MIN);
        is("min(" + MOST + ", " + LEAST + ")", MIN);
        is("max(" + LEAST + ", " + MOST + ")", MAX);
        is("max(" + MOST + ", " + LEAST + ")", MAX);
        is("min(-1, 0)", -1);
        is("max(-1, 0)", 0);
        is("min(5, 5) + max(5, 5)", 10);
    }

    private static void cutTowardsZero() {
        Due.sentence("Terms", "/ is cut towards 0");
        is("6 / 3", 2);
        is("7 / 3", 2);
        is("8 / 3", 2);
        is("-6 / 3", -2);
        is("-7 / 3", -2);
        is("-8 / 3", -2);
        is("7 / -3", -2);
        is("-7 / -3", 2);
        is("1 / 2", 0);
        is("-1 / 2", 0);
        is("1 / -2", 0);
        is("0 / 5", 0);
        is(MOST + " / 2", 1073741823);
        is(LEAST + " / 3", -715827882);
        is(MOST + " / " + LEAST, 0);
        is(LEAST + " / " + MOST, -1);
        is("7 / 2 * 2", 6);
    }

    private static void byZero() {
        Due.sentence("Terms", "gives 0 with 0 on the right side");
        is("7 / 0", 0);
        is("-7 / 0", 0);
        is("0 / 0", 0);
        is(MOST + " / 0", 0);
        is(LEAST + " / 0", 0);
        is("7 / (3 - 3)", 0);
        is("7 / -0", 0);
        is("7 / (65536 * 65536)", 0);
        is("7 / 0 + 5", 5);
        is("7 / 0 / 0", 0);
        is("6 / (1 / 2)", 0);
    }

    private static void leastByMinusOne() {
        Due.sentence("Terms", "-2147483648 / -1 gives -2147483648");
        is(LEAST + " / -1", MIN);
        is("65536 * 32768 / (0 - 1)", MIN);
        is(LEAST + " / -1 / -1", MIN);
        is(LEAST + " / 1", MIN);
        is("(" + LEAST + " + 1) / -1", MAX);
        is(MOST + " / -1", -MAX);
        is(LEAST + " / -2", 1073741824);
    }

    private static void positions() {
        Due.sentence("Terms", "Positions of the tape are counted from 0, in bytes.");
        Texts.bad(1, "^?");
        Texts.bad(1, " ^?");
        Texts.bad(1, "\n\n^?");
        Texts.bad(1, "^\u00e9");
        Texts.bad(1, "ground a room 1 fish 1;^\u00e9\u00e9");
        Texts.bad(2, Texts.GROUND + "\n" + "ground ^a room 1 fish 1;");
    }

    private static void time() {
        Due.sentence("Terms", "Time is told in tides, from 0.");
        Due.same("the tide of a new object", new TideLots().count(0), 0);
        Due.isTrue("the first tide is the tide 0", holds("tide = 0"));
        Due.isTrue("the first tide is not the tide 1", !holds("tide = 1"));
    }
}
