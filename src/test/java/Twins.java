import java.util.ArrayList;
import java.util.List;

/** Two shores with the same past: only one of them gets a call that must change nothing, and both go on alike. */
final class Twins {
    interface Maker {
        TideLots make();
    }

    interface CallOn {
        long on(TideLots shore);
    }

    interface CallWith {
        long on(TideLots shore, int number);
    }

    private static final String TEXT = "ground a room 1 fish 60, 30, 20; ground b room 2 fish 40, 9, 0, 0, 3;"
            + "fisher f mesh 1 net 14 hold 9; fisher g mesh 2 net 12 hold 5; fisher h mesh 1 net 40 hold 6;"
            + "go f to a; go g to a when not cheats f; go h to a; go f to b; go g to b; go h to b;"
            + "pact p of h, f, g split; pact q of h, f spare b below 30;";

    private Twins() {
    }

    /** Two grounds, three fishers, two pacts, an error in the past, and a text without one on the tape. */
    static TideLots example() {
        TideLots shore = Due.taught(TEXT);
        shore.pass(3);
        shore.cheat(1, true);
        Due.same("teach of a broken text", Due.teach(shore, "ground a ?"), 1);
        Due.write(shore, "ground c room 3 fish 33, 44; fisher k mesh 2 net 21 hold 7; fisher m mesh 1 net 9 hold 9;"
                + "fisher n mesh 1 net 9 hold 9; go k to c; go m to c; pact r of m, n split;");
        return shore;
    }

    /** Just this exception is due, and nothing may be changed by the call. */
    static void refused(String call, Class<? extends RuntimeException> due, Maker maker, CallOn refused) {
        TideLots shore = maker.make();
        Due.fails(call, due, () -> refused.on(shore));
        sameStory(call, shore, maker.make());
    }

    /** The call has an answer, but may not change anything. */
    static void unchanged(String call, Maker maker, CallOn asked) {
        TideLots shore = maker.make();
        long first = asked.on(shore);
        Due.same(call + " asked again", asked.on(shore), first);
        sameStory(call, shore, maker.make());
    }

    /** A number of a call may be least to most: the numbers around are refused, and change nothing. */
    static void range(String call, Class<? extends RuntimeException> due, int least, int most, CallWith called) {
        for (int allowed : new int[] {least, most}) {
            TideLots shore = example();
            isAnswered(call + " with " + allowed, () -> called.on(shore, allowed));
        }
        for (int other : new int[] {least - 1, most + 1, most + 1000, Integer.MIN_VALUE, Integer.MAX_VALUE}) {
            refused(call + " with " + other, due, Twins::example, shore -> called.on(shore, other));
        }
    }

    private static void isAnswered(String what, Due.Call call) {
        boolean isThrown = false;
        try {
            call.answer();
        } catch (RuntimeException e) {
            isThrown = true;
        }
        Due.isTrue(what + " is answered", !isThrown);
    }

    private static void sameStory(String call, TideLots shore, TideLots twin) {
        List<Long> got = story(shore);
        List<Long> due = story(twin);
        Due.same("the length of the story behind " + call, got.size(), due.size());
        for (int i = 0; i < due.size() && i < got.size(); i++) {
            Due.same("number " + i + " of the story behind " + call, got.get(i), due.get(i));
        }
    }

    /** All that can be seen now, what comes of it, and what the tape says. */
    private static List<Long> story(TideLots shore) {
        List<Long> story = new ArrayList<>();
        story.add((long) shore.errorAt());
        story.add(shore.digest());
        story.add((long) shore.gap());
        story.add(Double.doubleToLongBits(shore.mean()));
        for (int i = 0; i < shore.count(1); i++) {
            story.add((long) shore.blame(i));
            story.add((long) shore.empty(i));
        }
        for (int what = 0; what <= 2; what++) {
            story.add((long) shore.foresee(60, what));
        }
        for (int tide = 0; tide < 4; tide++) {
            story.add((long) shore.pass(1 + tide));
            story.add(shore.digest());
        }
        story.add((long) shore.teach());
        story.add((long) shore.errorAt());
        story.add(shore.digest());
        story.add((long) shore.pass(7));
        story.add(shore.digest());
        return story;
    }
}
