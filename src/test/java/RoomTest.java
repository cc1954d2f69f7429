import java.lang.reflect.Array;
import java.lang.reflect.Field;
import java.lang.reflect.Modifier;
import java.util.ArrayDeque;
import java.util.Collections;
import java.util.IdentityHashMap;
import java.util.Set;

/** The room of one run, some 600,000 objects and 7.3 million elements: enough, were each of 512 calls a new object. */
public final class RoomTest {
    private static final int CALLS = 512;
    private static final int MOST_OBJECTS = 600000;
    private static final int MOST_ELEMENTS = 7300000;

    private final Set<Object> objects = Collections.newSetFromMap(new IdentityHashMap<>());
    private long elements = 0;

    private RoomTest() {
    }

    public static void main(String[] args) throws IllegalAccessException {
        TideLots shore = new TideLots();
        RoomTest first = countFrom(shore);
        Due.isTrue(CALLS + " times " + first.objects.size() + " objects", CALLS * first.objects.size() < MOST_OBJECTS);
        Due.isTrue(CALLS + " times " + first.elements + " elements", CALLS * first.elements < MOST_ELEMENTS);
        useIt(shore);
        RoomTest last = countFrom(shore);
        Due.isTrue("no object comes or goes in " + CALLS + " calls", last.objects.equals(first.objects));
        Due.same("elements behind " + CALLS + " calls", last.elements, first.elements);
        Due.end("RoomTest");
    }

    /** The greatest shore that there can be, taught and asked again and again. */
    private static void useIt(TideLots shore) {
        StringBuilder text = new StringBuilder(Texts.lines("ground # room 8 fish 99, 99, 99, 99, 99;", 8));
        text.append(Texts.lines("fisher # mesh 1 net 99 hold 40;", 8)).append(Texts.lines("go # to # when 1 < 2;", 8));
        text.append(Texts.lines("pact # of n1, n2, n3 spare n1 below tide;", 6));
        for (int round = 0; round < 8; round++) {
            Due.same("teach of the great text", Due.teach(shore, text.toString()), 0);
            Due.same("teach of a broken text", Due.teach(shore, "ground a room 1 fish 1, ;"), 1);
            shore.pass(1);
            shore.foresee(60, round % 3);
            shore.pays(round, 60);
            shore.empty(round);
            shore.advise(round, 40);
            shore.digest();
        }
    }

    private static RoomTest countFrom(Object first) throws IllegalAccessException {
        RoomTest count = new RoomTest();
        ArrayDeque<Object> left = new ArrayDeque<>();
        left.add(first);
        while (!left.isEmpty()) {
            Object next = left.pop();
            if (count.objects.add(next)) {
                count.addParts(next, left);
            }
        }
        return count;
    }

    private void addParts(Object whole, ArrayDeque<Object> left) throws IllegalAccessException {
        if (whole.getClass().isArray()) {
            elements += Array.getLength(whole);
            for (int i = 0; i < Array.getLength(whole) && whole instanceof Object[]; i++) {
                addPart(Array.get(whole, i), left);
            }
            return;
        }
        for (Field field : whole.getClass().getDeclaredFields()) {
            if (!Modifier.isStatic(field.getModifiers())) {
                elements++;
                field.setAccessible(true);
                addPart(field.getType().isPrimitive() ? null : field.get(whole), left);
            }
        }
    }

    /** Constants of an enum are made once for all, and are not counted. */
    private static void addPart(Object part, ArrayDeque<Object> left) {
        if (part != null && !(part instanceof Enum)) {
            left.add(part);
        }
    }
}
