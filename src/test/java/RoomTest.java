import java.lang.management.ManagementFactory;
import java.lang.reflect.Array;
import java.lang.reflect.Field;
import java.lang.reflect.Modifier;
import java.util.ArrayDeque;
import java.util.Collections;
import java.util.Deque;
import java.util.IdentityHashMap;
import java.util.Set;

/** One room for all calls of a run: what an object is made of, what its calls make, and that the dearest end. */
public final class RoomTest {
    private static final int MOST_OBJECTS = 300;
    private static final int MOST_ELEMENTS = 10000;
    private static final int MOST_BYTES_MADE = 50000;

    public static void main(String[] args) {
        size();
        longestLaw();
        callsMakeNothing();
        farArguments();
        Check.end("RoomTest");
    }

    private static void size() {
        Set<Object> seen = Collections.newSetFromMap(new IdentityHashMap<>());
        Deque<Object> open = new ArrayDeque<>();
        open.push(new HeldMusic());
        long elements = 0;
        while (!open.isEmpty()) {
            Object o = open.pop();
            if (!seen.add(o)) {
                continue;
            }
            if (o.getClass().isArray()) {
                elements += Array.getLength(o);
                for (int i = 0; o instanceof Object[] && i < Array.getLength(o); i++) {
                    open.push(Array.get(o, i));
                }
                continue;
            }
            for (Field f : o.getClass().getDeclaredFields()) {
                if (!Modifier.isStatic(f.getModifiers())) {
                    elements++;
                    push(open, o, f);
                }
            }
        }
        System.out.println("an object: " + seen.size() + " objects, " + elements + " fields and elements");
        Check.due("objects of one", seen.size() <= MOST_OBJECTS, true);
        Check.due("elements of one", elements <= MOST_ELEMENTS, true);
    }

    private static void push(Deque<Object> open, Object o, Field f) {
        if (f.getType().isPrimitive()) {
            return;
        }
        try {
            f.setAccessible(true);
            Object held = f.get(o);
            Check.due(f + " is not null", held != null, true);
            open.push(held);
        } catch (IllegalAccessException e) {
            Check.due(f + " can be seen", false, true);
        }
    }

    /** The dearest office: six who hold the longest, whom nobody helps, and a law that is long and never so. */
    private static HeldMusic dearest(int lawSigns) {
        StringBuilder office = new StringBuilder("takes 20;");
        for (int i = 0; i < 6; i++) {
            office.append("caller ").append((char) ('a' + i)).append(" plain trouble 9 knows ").append(i).append(" holds 30;");
        }
        office.append("believes 0");
        while (office.length() + 3 < 1000 && lawSigns > 0) {
            office.append("+0");
            lawSigns -= 2;
        }
        return Check.opened(office + ";");
    }

    private static void longestLaw() {
        HeldMusic x = dearest(1000);
        Check.due("order with the longest law", x.order(-1), 1);
        StringBuilder law = new StringBuilder("believes ((((1");
        while (law.length() < 990) {
            law.append("+1");
        }
        HeldMusic y = Check.opened("caller a plain trouble 1 knows 2 holds 1;takes 1;");
        Check.due("a law as long as the tape", Check.office(y, law + "))));"), 0);
        Check.due("a tape of opened ones", Check.office(y, "believes " + "(".repeat(991)), Check.fault(5, 14));
        Check.due("a tape of nots", Check.office(y, "believes " + "not ".repeat(247)), Check.fault(5, 29));
        // As many values wait at once as can: four at each of the five levels.
        String level = "0 or 1=0+1*";
        String deep = "believes " + (level + "(").repeat(4) + level + "1" + ")".repeat(4) + ";";
        HeldMusic z = new HeldMusic();
        Check.due("waiting values", Check.office(z, deep + "caller a plain trouble 1 knows 2 holds 9;"
            + "caller b plain trouble 2 knows 1 holds 9;"), 0);
        Check.due("their law", z.hears(0, 1), 2);
    }

    private static void callsMakeNothing() {
        HeldMusic x = dearest(10);
        com.sun.management.ThreadMXBean bean = (com.sun.management.ThreadMXBean) ManagementFactory.getThreadMXBean();
        long id = Thread.currentThread().getId();
        round(x);
        long before = bean.getThreadAllocatedBytes(id);
        for (int i = 0; i < 20; i++) {
            round(x);
        }
        long made = bean.getThreadAllocatedBytes(id) - before;
        System.out.println("some 500 calls made " + made + " bytes");
        Check.due("calls make no objects", made <= MOST_BYTES_MADE, true);
    }

    private static void round(HeldMusic x) {
        x.feed(0x72696e6720613bL, 0x6d696e7574653bL, 0x6d696e7574653bL);
        x.day();
        x.ring(0);
        x.ring(1);
        x.swap(0, 1);
        x.minute();
        x.order(-1);
        x.order(0);
        x.deal(-1);
        x.chance(0);
        x.helpers(0);
        x.sets(0);
        x.tell(0, true);
        x.ask();
        x.days(1, 99, 0);
        x.judged(0);
        x.other(3);
        x.mark(0, false);
        x.mark(0, true);
        x.spread(1);
        x.hears(0, 1);
        x.off(0);
        x.undo();
        x.feed(0x3bL, 0L, 0L);
        x.office();
    }

    /** Every call with arguments from afar, in some states: none may throw but rests. */
    private static void farArguments() {
        int[] far = {Integer.MIN_VALUE, -1000, -2, -1, 0, 5, 6, 7, 31, 32, 36, 64, 1000, Integer.MAX_VALUE};
        for (int a : far) {
            HeldMusic[] states = {new HeldMusic(), dearest(0), dearest(4)};
            for (int i = 0; i < 6; i++) {
                states[2].ring(i);
            }
            for (HeldMusic x : states) {
                one(x, a);
                for (int b : far) {
                    two(x, a, b);
                }
            }
        }
    }

    private static void one(HeldMusic x, int a) {
        int before = x.count(0);
        x.line(a);
        x.judged(a);
        x.next(a);
        x.when(a);
        x.spread(a);
        x.order(a);
        x.helpers(a);
        x.gone(a);
        x.holders(a);
        x.deal(a);
        x.usual(a);
        x.sets(a);
        x.chance(a);
        x.other(a);
        x.count(a);
        x.tell(a, true);
        x.mark(a, false);
        x.mark(a, true);
        x.off(a);
        x.ring(a);
        x.feed(a, a, a);
        Check.due("callers stay", x.count(0), before);
    }

    private static void two(HeldMusic x, int a, int b) {
        x.caller(a, b);
        x.met(a, b);
        x.meets(a, b);
        x.hears(a, b);
        x.swap(a, b);
        x.days(a, b, 0);
        x.days(0, a, b);
        x.days(a, 1, b);
        Check.rests(x, a, b, 0, -1);
        Check.rests(x, 0, a, b, 0);
        Check.rests(x, 0, 0, a, b);
    }
}
