import java.nio.charset.StandardCharsets;

/** Counts and prints answers that are not the due ones, and helps to fill the tape. */
final class Due {
    /** A call that may throw. */
    interface Call {
        long answer();
    }

    private static int wrong = 0;
    private static int checked = 0;
    /** What is printed ahead of each wrong answer. */
    private static String heading = "";

    private Due() {
    }

    /** What follows is for this sentence of the document; a sentence that the document does not have is wrong, too. */
    static void sentence(String where, String words) {
        heading = where + ", \"" + words + "\": ";
        isTrue("the document says so", Document.says(where, words));
    }

    static void same(String what, long got, long due) {
        checked++;
        if (got != due) {
            tell(what + " answered " + got + ", due is " + due);
        }
    }

    static void same(String what, double got, double due) {
        checked++;
        if (got != due) {
            tell(what + " answered " + got + ", due is " + due);
        }
    }

    private static void tell(String fault) {
        wrong++;
        System.out.println(heading + fault);
    }

    static void isTrue(String what, boolean got) {
        same(what + " (1 for true)", got ? 1 : 0, 1);
    }

    /** Just this class of exception is due, and none above or below it. */
    static void fails(String what, Class<? extends RuntimeException> due, Call call) {
        checked++;
        String got;
        try {
            got = "the answer " + call.answer();
        } catch (RuntimeException e) {
            if (e.getClass() == due) {
                return;
            }
            got = e.toString();
        }
        tell(what + " gave " + got + ", due is " + due.getName());
    }

    /** The exception is due, and the object has to be as it was. */
    static void failsAndStays(String what, Class<? extends RuntimeException> due, TideLots shore, Call call) {
        long before = shore.digest();
        fails(what, due, call);
        same("the digest behind " + what, shore.digest(), before);
    }

    /** Puts a text behind what is on the tape. */
    static void write(TideLots shore, String text) {
        byte[] bytes = text.getBytes(StandardCharsets.ISO_8859_1);
        int former = shore.count(9);
        for (int from = 0; from < bytes.length; from += 20) {
            int[] fives = new int[5];
            for (int i = 0; i < 20; i++) {
                int next = from + i < bytes.length ? bytes[from + i] & 255 : 'X';
                fives[i / 4] = fives[i / 4] << 8 | next;
            }
            shore.feed(fives[0], fives[1], fives[2], fives[3], fives[4]);
        }
        shore.trim(former + bytes.length);
    }

    static int teach(TideLots shore, String text) {
        write(shore, text);
        return shore.teach();
    }

    /** A new object, which has been taught a text without an error. */
    static TideLots taught(String text) {
        TideLots shore = new TideLots();
        same("teach of " + text, teach(shore, text), 0);
        return shore;
    }

    static void end(String test) {
        System.out.println(test + ": " + checked + " answers, " + wrong + " of them wrong");
        if (wrong > 0) {
            System.exit(1);
        }
    }
}
