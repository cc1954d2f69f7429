/** Makes texts, most of them good ones; the same numbers always give the same texts. */
final class TextMaker {
    private long seed;
    private int grounds;
    private int fishers;
    private int pacts;
    private StringBuilder text = new StringBuilder();

    TextMaker(long seed) {
        this.seed = seed * 2862933555777941757L + 3037000493L;
    }

    /** 0 to n - 1. */
    int below(int n) {
        seed = seed * 6364136223846793005L + 1442695040888963407L;
        return (int) ((seed >>> 33) % n);
    }

    String goodText() {
        text = new StringBuilder();
        grounds = 0;
        fishers = 0;
        pacts = 0;
        int groundLines = 1 + below(below(2) == 0 ? 3 : 8);
        int fisherLines = 1 + below(below(2) == 0 ? 4 : 8);
        for (int i = 0; i < groundLines; i++) {
            groundLine();
        }
        for (int i = 0; i < fisherLines; i++) {
            fisherLine();
        }
        int lines = 2 + below(16);
        for (int i = 0; i < lines && text.length() < 1500; i++) {
            if (below(4) == 0 && pacts < 6) {
                pactLine();
            } else {
                goLine();
            }
        }
        return text.toString();
    }

    /** A text in which a few tokens were changed, taken away, or doubled. */
    String changedText() {
        String good = goodText();
        StringBuilder changed = new StringBuilder(good);
        int changes = 1 + below(2);
        for (int i = 0; i < changes && changed.length() > 0; i++) {
            change(changed);
        }
        return changed.length() > 2000 ? changed.substring(0, 2000) : changed.toString();
    }

    private void change(StringBuilder changed) {
        if (below(3) == 0) {
            changeRoughly(changed);
        } else if (below(3) == 0) {
            addLines(changed);
        } else {
            changeOneName(changed);
        }
    }

    /** Behind a line end, so that the grammar is kept. */
    private void addLines(StringBuilder changed) {
        String[] lines = {"ground g9 room 1 fish 1, 2, 3, 4, 5, 6;", "ground h room 9 fish 100;", "go f0 to g0;",
            "ground g1 room 8 fish 1, 2, 3, 4, 99;", "fisher f8 mesh 6 net 1 hold 1;", "fisher f7 mesh 1 net 1 hold 0;",
            "pact p0 of f0 split;", "pact q of f0, f0 split;", "pact p3 of f0, f1, f2 spare g1 below fish g2;",
            "go f1 to f1;", "go f1 to g1 when cheats g1;", "fisher f5 mesh 1 net 100 hold 1;", "ground x room 1 fish 1;"};
        int line = changed.indexOf(";", below(changed.length()));
        String added = lines[below(lines.length)];
        int times = below(3) == 0 ? 25 : 1;
        for (int i = 0; i < times && line >= 0 && changed.length() < 1900; i++) {
            changed.insert(line + 1, added);
        }
    }

    /** A digit, or the first letter of a name, becomes another one. */
    private void changeOneName(StringBuilder changed) {
        for (int at = below(changed.length()); at < changed.length(); at++) {
            char sign = changed.charAt(at);
            if (sign >= '0' && sign <= '9') {
                changed.setCharAt(at, (char) ('0' + below(10)));
                return;
            }
            boolean isName = at + 1 < changed.length() && Character.isDigit(changed.charAt(at + 1));
            if (isName && (sign == 'f' || sign == 'g' || sign == 'p')) {
                changed.setCharAt(at, "fgp".charAt(below(3)));
                return;
            }
        }
    }

    private void changeRoughly(StringBuilder changed) {
        String[] pieces = {"ground", "fisher g9 mesh 2 net 4 hold 9;", "go", "pact", ";", ",", "(", ")", "[", "]", "-",
            "not ", "cheats f0", "1234567", "999999", "0", "100", "f0", "g0", "p0", "x", "abcdefghijkl", "<", ">=",
            "min(", "min(1, 2)", "tide", "fish g0", "boats f0", "?", "\u00ff", "\u0000", " ", "\n",
            "ground g7 room 1 fish 1, 2, 3, 4, 5, 6;", "ground h room 9 fish 100;", "go f0 to g0;", "and ", "or ",
            "pact p0 of f0 split;", "pact q of f0, f0 split;", "when not not not not not not not not not cheats f0",
            "when (((((((((1))))))))) < 2", "when ((((((((1)))))))) < --------1", "when [[[[[[[[-1 < 2]]]]]]]]"};
        int at = below(changed.length() + 1);
        switch (below(4)) {
            case 0:
                changed.insert(at, pieces[below(pieces.length)]);
                break;
            case 1:
                changed.insert(at, " " + pieces[below(pieces.length)] + " ");
                break;
            case 2:
                changed.delete(at, Math.min(changed.length(), at + 1 + below(6)));
                break;
            default:
                changed.insert(at, changed.substring(at, Math.min(changed.length(), at + 1 + below(40))));
        }
    }

    /** Mostly blanks; what stands between two tokens. */
    private void add(String token) {
        text.append(token).append(below(20) == 0 ? "\n" : " ");
    }

    private void groundLine() {
        add("ground g" + grounds);
        add("room " + (1 + below(below(2) == 0 ? 3 : 8)));
        add("fish");
        int most = below(3) == 0 ? 100 : below(2) == 0 ? 30 : 4;
        int sizes = 1 + below(most == 4 ? 2 : 5);
        for (int i = 0; i < sizes; i++) {
            add((i > 0 ? ", " : "") + below(most));
        }
        add(";");
        grounds++;
    }

    private void fisherLine() {
        add("fisher f" + fishers);
        add("mesh " + (1 + below(below(2) == 0 ? 2 : 5)));
        add("net " + (1 + below(below(2) == 0 ? 30 : 99)));
        add("hold " + (1 + below(below(2) == 0 ? 10 : 40)));
        add(";");
        fishers++;
    }

    private void goLine() {
        add("go f" + below(fishers));
        add("to g" + below(grounds));
        if (below(2) == 0) {
            add("when");
            test(3);
        }
        add(";");
    }

    private void pactLine() {
        add("pact p" + pacts);
        add("of");
        int first = below(fishers);
        int size = 1 + below(fishers);
        for (int i = 0; i < size; i++) {
            add((i > 0 ? ", f" : "f") + (first + i) % fishers);
        }
        if (below(2) == 0) {
            add("split");
        } else {
            add("spare g" + below(grounds));
            add("below");
            sum(2);
        }
        add(";");
        pacts++;
    }

    private void test(int depth) {
        switch (depth > 0 ? below(7) : 6) {
            case 0:
                test(depth - 1);
                add(below(2) == 0 ? "and" : "or");
                test(depth - 1);
                break;
            case 1:
                add("[");
                test(depth - 1);
                add("]");
                break;
            case 2:
                add("not");
                test(depth - 1);
                break;
            case 3:
                add("cheats f" + below(fishers));
                break;
            default:
                sum(depth - 1);
                add(new String[] {"<", ">", "=", "<=", ">="}[below(5)]);
                sum(depth - 1);
        }
    }

    private void sum(int depth) {
        switch (depth > 0 ? below(8) : 4 + below(4)) {
            case 0:
            case 1:
                sum(depth - 1);
                add(new String[] {"+", "-", "*", "/"}[below(4)]);
                sum(depth - 1);
                break;
            case 2:
                add(below(2) == 0 ? "min" : "max");
                add("(");
                sum(depth - 1);
                add(",");
                sum(depth - 1);
                add(")");
                break;
            case 3:
                add(below(2) == 0 ? "-" : "");
                add("(");
                sum(depth - 1);
                add(")");
                break;
            case 4:
                add("" + below(below(4) == 0 ? 1000000 : 60));
                break;
            case 5:
                add(below(2) == 0 ? "tide" : "" + below(10));
                break;
            case 6:
                add(new String[] {"store", "catch", "mesh"}[below(3)] + " f" + below(fishers));
                break;
            default:
                add((below(2) == 0 ? "fish" : "boats") + " g" + below(grounds));
        }
    }
}
