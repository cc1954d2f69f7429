/** Texts that have no error, or one at a place that is marked; each is taught to a new object. */
final class Texts {
    static final String GROUND = "ground a room 1 fish 1;";
    static final String FISHER = "fisher f mesh 1 net 9 hold 4;";
    /** A test is missing, and a semicolon. */
    static final String GO_WHEN = GROUND + FISHER + "go f to a when ";
    /** A sum is missing, and a semicolon. */
    static final String SPARE_BELOW = GROUND + FISHER + "pact p of f spare a below ";

    private Texts() {
    }

    static void good(String text) {
        TideLots shore = new TideLots();
        Due.same("promise 4: teach of " + text, Due.teach(shore, text), 0);
        Due.same("promise 5: errorAt of " + text, shore.errorAt(), -1);
        Due.same("promise 4: bytes behind " + text, shore.count(9), 0);
    }

    /** The error is due at the ^, which is no part of the text. */
    static void bad(int error, String text) {
        int at = text.indexOf('^');
        badAt(error, at, text.substring(0, at) + text.substring(at + 1));
    }

    static void badAt(int error, int at, String text) {
        TideLots shore = new TideLots();
        Due.same("promise 4: teach of " + text, Due.teach(shore, text), error);
        Due.same("promise 5: errorAt of " + text, shore.errorAt(), at);
        Due.same("promise 4: bytes behind " + text, shore.count(9), 0);
        Due.same("promise 4: grounds behind " + text, shore.count(1), 0);
    }

    /** The line so often, with n1, n2 and so on for #. */
    static String lines(String line, int times) {
        StringBuilder text = new StringBuilder();
        for (int i = 1; i <= times; i++) {
            text.append(line.replace("#", "n" + i));
        }
        return text.toString();
    }
}
