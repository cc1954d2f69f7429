import java.util.ArrayList;
import java.util.HashMap;
import java.util.HashSet;
import java.util.List;
import java.util.Map;
import java.util.Set;

/** A second reading of the language, written apart from TideLots: trees in the place of rows, all errors noted. */
final class PlainText {
    /** A test (1 or 0) or a sum, as it is on a shore now. */
    interface Sum {
        int of(PlainShore shore);
    }

    record Token(String kind, String text, int at) {
    }

    record Go(int fisher, int ground, Sum test) {
    }

    record Pact(List<Integer> fishers, int ground, Sum below) {
    }

    record Fault(int token, int error) {
    }

    private static final class Broken extends Exception {
        private static final long serialVersionUID = 1;
    }

    private static final Set<String> KEYWORDS = Set.of("ground", "room", "fish", "fisher", "mesh", "net", "hold", "go",
            "to", "when", "pact", "of", "split", "spare", "below", "tide", "store", "catch", "boats", "cheats", "not",
            "and", "or", "min", "max");

    final List<int[]> grounds = new ArrayList<>();
    final List<int[]> fishers = new ArrayList<>();
    final List<Go> goes = new ArrayList<>();
    final List<Pact> pacts = new ArrayList<>();
    int error = 0;
    int errorAt = -1;

    private final List<Token> tokens = new ArrayList<>();
    private final List<Fault> faults = new ArrayList<>();
    private final Map<String, Integer> groundNames = new HashMap<>();
    private final Map<String, Integer> fisherNames = new HashMap<>();
    private final Map<String, Integer> pactNames = new HashMap<>();
    private int next = 0;

    PlainText(byte[] tape) {
        cut(tape);
        try {
            while (!peek().equals("end")) {
                line();
            }
        } catch (Broken e) {
            error = 1;
            errorAt = tokens.get(next).at;
            return;
        }
        for (Fault fault : faults) {
            boolean isFirst = error == 0 || tokens.get(fault.token).at < errorAt
                    || tokens.get(fault.token).at == errorAt && fault.error < error;
            if (isFirst) {
                error = fault.error;
                errorAt = tokens.get(fault.token).at;
            }
        }
    }

    private void cut(byte[] tape) {
        String rest = new String(tape, java.nio.charset.StandardCharsets.ISO_8859_1);
        java.util.regex.Matcher matcher = java.util.regex.Pattern
                .compile("[ \\n]*(?:([a-z][a-z0-9]*)|([0-9]+)|(<=|>=|[\\[\\]()<>=;,+*/-])|(\\z)|(.))",
                        java.util.regex.Pattern.DOTALL)
                .matcher(rest);
        while (matcher.find()) {
            int group = 1;
            while (matcher.group(group) == null) {
                group++;
            }
            tokens.add(new Token(kind(group, matcher.group(group)), matcher.group(group), matcher.start(group)));
            if (group >= 4) {
                break;
            }
        }
        if (tokens.size() > 400 && !tokens.get(400).kind.equals("end")) {
            tokens.set(400, new Token("bad", "", tokens.get(400).at));
        }
    }

    private String kind(int group, String text) {
        switch (group) {
            case 1: return text.length() > 10 ? "bad" : KEYWORDS.contains(text) ? text : "name";
            case 2: return text.length() > 6 ? "bad" : "number";
            case 3: return text;
            case 4: return "end";
            default: return "bad";
        }
    }

    private String peek() {
        return tokens.get(next).kind;
    }

    private Token take(String kind) throws Broken {
        if (!peek().equals(kind)) {
            throw new Broken();
        }
        next++;
        return tokens.get(next - 1);
    }

    private boolean takes(String kind) {
        boolean isThere = peek().equals(kind);
        next += isThere ? 1 : 0;
        return isThere;
    }

    private void fault(int token, int number) {
        faults.add(new Fault(token, number));
    }

    private void line() throws Broken {
        int start = next;
        if (takes("ground")) {
            newName(groundNames, 8);
            take("room");
            List<Integer> told = new ArrayList<>();
            told.add(number(1, 8));
            take("fish");
            do {
                told.add(number(0, 99));
                if (told.size() > 6) {
                    fault(next - 1, 4);
                }
            } while (takes(","));
            int[] ground = new int[6];
            for (int i = 0; i < 6 && i < told.size(); i++) {
                ground[i] = told.get(i);
            }
            grounds.add(ground);
        } else if (takes("fisher")) {
            newName(fisherNames, 8);
            take("mesh");
            int mesh = number(1, 5);
            take("net");
            int net = number(1, 99);
            take("hold");
            fishers.add(new int[] {mesh, net, number(1, 40)});
        } else if (takes("go")) {
            int fisher = oldName(fisherNames);
            take("to");
            int ground = oldName(groundNames);
            goes.add(new Go(fisher, ground, takes("when") ? test(0) : null));
            if (goes.size() > 24) {
                fault(start, 4);
            }
        } else {
            take("pact");
            newName(pactNames, 6);
            take("of");
            pact();
        }
        take(";");
    }

    private void pact() throws Broken {
        List<Integer> members = new ArrayList<>();
        Set<String> names = new HashSet<>();
        do {
            String name = tokens.get(next).text;
            members.add(oldName(fisherNames));
            if (!names.add(name)) {
                fault(next - 1, 6);
            }
        } while (takes(","));
        if (takes("split")) {
            pacts.add(new Pact(members, -1, null));
            return;
        }
        take("spare");
        int ground = oldName(groundNames);
        take("below");
        pacts.add(new Pact(members, ground, sum(0)));
    }

    private void newName(Map<String, Integer> names, int most) throws Broken {
        Token token = take("name");
        if (names.containsKey(token.text)) {
            fault(next - 1, 2);
        } else {
            names.put(token.text, names.size());
        }
        if (names.size() > most) {
            fault(next - 1, 4);
        }
    }

    private int oldName(Map<String, Integer> names) throws Broken {
        Token token = take("name");
        if (!names.containsKey(token.text)) {
            fault(next - 1, 3);
            return -1;
        }
        return names.get(token.text);
    }

    private int number(int least, int most) throws Broken {
        int number = Integer.parseInt(take("number").text);
        if (number < least || number > most) {
            fault(next - 1, 5);
        }
        return number;
    }

    private void deeper(int depth) throws Broken {
        if (depth > 8) {
            next--;
            throw new Broken();
        }
    }

    private Sum test(int depth) throws Broken {
        Sum left = both(depth);
        while (takes("or")) {
            Sum a = left;
            Sum b = both(depth);
            left = shore -> Math.max(a.of(shore), b.of(shore));
        }
        return left;
    }

    private Sum both(int depth) throws Broken {
        Sum left = single(depth);
        while (takes("and")) {
            Sum a = left;
            Sum b = single(depth);
            left = shore -> a.of(shore) * b.of(shore);
        }
        return left;
    }

    private Sum single(int depth) throws Broken {
        if (takes("not")) {
            deeper(depth + 1);
            Sum turned = single(depth + 1);
            return shore -> turned.of(shore) == 0 ? 1 : 0;
        }
        if (takes("[")) {
            deeper(depth + 1);
            Sum inside = test(depth + 1);
            take("]");
            return inside;
        }
        if (takes("cheats")) {
            int fisher = oldName(fisherNames);
            return shore -> shore.cheats[fisher] ? 1 : 0;
        }
        Sum a = sum(depth);
        String sign = peek();
        if (!Set.of("<", ">", "=", "<=", ">=").contains(sign)) {
            throw new Broken();
        }
        take(sign);
        Sum b = sum(depth);
        return shore -> {
            int order = Integer.compare(a.of(shore), b.of(shore));
            return order < 0 && sign.startsWith("<") || order > 0 && sign.startsWith(">")
                    || order == 0 && sign.endsWith("=") ? 1 : 0;
        };
    }

    private Sum sum(int depth) throws Broken {
        Sum left = product(depth);
        while (peek().equals("+") || peek().equals("-")) {
            boolean isPlus = takes("+");
            if (!isPlus) {
                take("-");
            }
            Sum a = left;
            Sum b = product(depth);
            left = shore -> (int) ((long) a.of(shore) + (isPlus ? 1L : -1L) * b.of(shore));
        }
        return left;
    }

    private Sum product(int depth) throws Broken {
        Sum left = value(depth);
        while (peek().equals("*") || peek().equals("/")) {
            boolean isTimes = takes("*");
            if (!isTimes) {
                take("/");
            }
            Sum a = left;
            Sum b = value(depth);
            left = shore -> {
                long x = a.of(shore);
                long y = b.of(shore);
                return (int) (isTimes ? x * y : y == 0 ? 0 : x / y);
            };
        }
        return left;
    }

    private Sum value(int depth) throws Broken {
        String kind = peek();
        if (kind.equals("number")) {
            int number = number(0, 999999);
            return shore -> number;
        }
        if (takes("tide")) {
            return shore -> shore.tide;
        }
        if (takes("store") || takes("catch") || takes("mesh")) {
            int fisher = oldName(fisherNames);
            return shore -> kind.equals("store") ? shore.stores[fisher]
                    : kind.equals("catch") ? shore.latest[fisher] : shore.meshes[fisher];
        }
        if (takes("fish") || takes("boats")) {
            int ground = oldName(groundNames);
            return shore -> kind.equals("boats") ? shore.boats[ground] : shore.fishAt(ground);
        }
        if (takes("-")) {
            deeper(depth + 1);
            Sum turned = value(depth + 1);
            return shore -> (int) -(long) turned.of(shore);
        }
        if (takes("min") || takes("max")) {
            return lesserOrGreater(kind.equals("min"), depth);
        }
        take("(");
        deeper(depth + 1);
        Sum inside = sum(depth + 1);
        take(")");
        return inside;
    }

    private Sum lesserOrGreater(boolean isMin, int depth) throws Broken {
        take("(");
        deeper(depth + 1);
        Sum a = sum(depth + 1);
        take(",");
        Sum b = sum(depth + 1);
        take(")");
        return shore -> (a.of(shore) < b.of(shore)) == isMin ? a.of(shore) : b.of(shore);
    }
}
