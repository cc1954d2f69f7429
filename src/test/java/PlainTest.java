/** All promises: long runs of calls, with the answers that PlainShore gives. */
public final class PlainTest {
    private static final int RUNS = 60;
    private static final int CALLS = 400;
    private static final int TEXTS = 6000;

    private static int wrong = 0;
    private static int checked = 0;

    public static void main(String[] args) {
        for (int i = 0; i < TEXTS && wrong == 0; i++) {
            compareReading(new TextMaker(i).changedText());
        }
        everythingEverywhere();
        for (int run = 0; run < RUNS && wrong == 0; run++) {
            compareRun(run);
        }
        System.out.println("PlainTest: " + checked + " answers, " + wrong + " of them wrong");
        if (wrong > 0) {
            System.exit(1);
        }
    }

    /** Each of some pieces at each place of a text, in the place of nothing, or of all that is behind it. */
    private static void everythingEverywhere() {
        String text = "ground a room 2 fish 1,20;fisher f mesh 1 net 2 hold 3;fisher g mesh 1 net 2 hold 3;"
                + "go f to a when not[1<=fish a or cheats g]and max(tide*2,-(store f))>=boats a/3-catch g;"
                + "pact p of f,g split;pact q of g spare a below mesh f+min(1,2);";
        String[] pieces = {";", ",", "(", ")", "[", "]", "-", "+", "*", "/", "<", ">", "=", "<=", " f ", " a ", " z ",
            " 7 ", "0", "9", " not ", " and ", " when ", " cheats f ", " split ", " fish ", " tide ", " min ", "#"};
        for (int at = 0; at <= text.length() && wrong == 0; at++) {
            compareReading(text.substring(0, at));
            for (String piece : pieces) {
                compareReading(text.substring(0, at) + piece);
                compareReading(text.substring(0, at) + piece + text.substring(at));
            }
        }
    }

    private static void compareReading(String text) {
        TideLots shore = new TideLots();
        PlainShore plain = new PlainShore();
        write(shore, plain, text);
        same("teach of " + text, answer(shore::teach), answer(plain::teach));
        same("errorAt of " + text, answer(shore::errorAt), answer(() -> plain.errorAt));
        same("digest of " + text, answer(shore::digest), answer(plain::digest));
    }

    private static void compareRun(int run) {
        TextMaker maker = new TextMaker(1000000 + run);
        TideLots shore = new TideLots();
        PlainShore plain = new PlainShore();
        StringBuilder calls = new StringBuilder("run " + run + ":");
        for (int i = 0; i < CALLS && wrong == 0; i++) {
            if (i % 100 == 0) {
                String text = maker.below(4) == 0 && i > 0 ? maker.changedText() : maker.goodText();
                calls.append(" TEXT ").append(text);
                write(shore, plain, text);
                same(calls + " teach", answer(shore::teach), answer(plain::teach));
            }
            call(maker, shore, plain, calls);
            same(calls + " digest", answer(shore::digest), answer(plain::digest));
        }
    }

    private static void call(TextMaker maker, TideLots shore, PlainShore plain, StringBuilder calls) {
        int kind = maker.below(30);
        int a = maker.below(12) - 1;
        int b = maker.below(12) - 1;
        int tides = maker.below(8) == 0 ? maker.below(70) - 4 : 1 + maker.below(6);
        boolean isCheat = maker.below(2) == 0;
        calls.append(' ').append(kind).append('(').append(a).append(' ').append(b).append(' ').append(tides)
                .append(' ').append(isCheat).append(')');
        String what = wrong == 0 ? calls.toString() : "";
        switch (kind) {
            case 0: same(what, answer(() -> shore.feed(a, b, tides, -1, 7)), answer(() -> plain.feed(a, b, tides, -1, 7))); break;
            case 1: same(what, answer(() -> shore.trim(a * 4)), answer(() -> plain.trim(a * 4))); break;
            case 2: same(what, answer(shore::errorAt), answer(() -> plain.errorAt)); break;
            case 3: same(what, answer(() -> shore.count(a)), answer(() -> plain.count(a))); break;
            case 4: same(what, answer(() -> shore.ground(a, b)), answer(() -> plain.ground(a, b))); break;
            case 5: same(what, answer(() -> shore.fisher(a, b)), answer(() -> plain.fisher(a, b))); break;
            case 6: same(what, answer(() -> shore.pact(a, b)), answer(() -> plain.pact(a, b))); break;
            case 7: case 8: case 9:
                same(what, answer(() -> shore.cheat(a, isCheat)), answer(() -> plain.cheat(a, isCheat))); break;
            case 10: case 11: case 12: case 13: case 14:
                same(what, answer(() -> shore.mend(a)), answer(() -> plain.mend(a))); break;
            case 15: same(what, answer(() -> shore.lot(a)), answer(() -> plain.lot(a))); break;
            case 16: same(what, answer(() -> shore.took(a, b)), answer(() -> plain.took(a, b))); break;
            case 17: same(what, answer(() -> shore.blame(a)), answer(() -> plain.blame(a))); break;
            case 18: same(what, answer(shore::gap), answer(plain::gap)); break;
            case 19: case 20: case 21: case 22: case 23:
                same(what, answer(() -> shore.pass(tides)), answer(() -> plain.pass(tides))); break;
            case 24: same(what, answer(() -> shore.foresee(tides, a / 3)), answer(() -> plain.foresee(tides, a / 3))); break;
            case 25: same(what, answer(() -> shore.pays(a, tides)), answer(() -> plain.pays(a, tides))); break;
            case 26: if (b < 2) same(what, answer(() -> shore.empty(a)), answer(() -> plain.empty(a))); break;
            case 27: same(what, answer(() -> shore.advise(a, tides)), answer(() -> plain.advise(a, tides))); break;
            default: same(what, answer(() -> Double.doubleToLongBits(shore.mean())),
                    answer(() -> Double.doubleToLongBits(plain.mean())));
        }
    }

    private static void write(TideLots shore, PlainShore plain, String text) {
        shore.trim(0);
        plain.trim(0);
        Due.write(shore, text);
        plain.tape = text.getBytes(java.nio.charset.StandardCharsets.ISO_8859_1);
    }

    private static String answer(Due.Call call) {
        try {
            return "" + call.answer();
        } catch (RuntimeException e) {
            return e.getClass().getName();
        }
    }

    private static void same(String what, String got, String due) {
        checked++;
        if (!got.equals(due)) {
            wrong++;
            System.out.println(what + " gave " + got + ", due is " + due);
        }
    }
}
