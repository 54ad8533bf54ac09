/** "An object is used for at most 512 calls": the last of them is answered as the first; behind it none may throw. */
public final class CallsEdgesTest {
    private static final int MOST = 512;
    /** Two who are put through to one another as long as one likes. */
    private static final String TWO = "takes 20;caller a plain trouble 9 knows 0 holds 30;caller b plain trouble 9 knows 1 holds 30;";

    private static HeldMusic x;
    private static int calls;

    public static void main(String[] args) {
        minutes();
        feeds();
        ringsAndOffs();
        swaps();
        undone();
        marks();
        offices();
        days();
        meetings();
        beyond();
        Check.end("CallsEdgesTest");
    }

    /** A new object with this office: how many calls that took is counted. */
    private static void open(String office) {
        x = new HeldMusic();
        calls = 0;
        for (int i = 0; i < office.length(); i += 24) {
            x.feed(Check.eight(office, i), Check.eight(office, i + 8), Check.eight(office, i + 16));
            calls++;
        }
        Check.due("3: office", x.office(), 0);
        calls++;
    }

    /** Whether this many calls more may be made, with one besides for the last answer. */
    private static boolean left(int more) {
        boolean are = calls + more < MOST;
        calls += are ? more : 0;
        return are;
    }

    private static void minutes() {
        x = new HeldMusic();
        calls = 0;
        while (left(1)) {
            x.minute();
        }
        Check.due("36: the 512th call", x.count(2), MOST - 1);
    }

    private static void feeds() {
        x = new HeldMusic();
        for (int i = 1; i < MOST; i++) {
            Check.due("2: feed " + i, x.feed(0, 0, 0x20), Math.min(i, 1000));
        }
        Check.due("3: the 512th call", x.office(), 0);
        x = new HeldMusic();
        for (int i = 1; i < MOST; i++) {
            Check.due("2: feed " + i, x.feed(0, 0x2020, 0x20), Math.min(3 * i, 1000));
        }
        Check.due("36: the 512th call", x.count(11), 1000);
    }

    private static void ringsAndOffs() {
        open(TWO);
        while (left(2)) {
            Check.due("8: rings", x.ring(0), 0);
            Check.due("9: off", x.off(0), true);
        }
        Check.due("36: the last call", x.count(3), 0);
    }

    private static void swaps() {
        open(TWO);
        x.ring(0);
        x.ring(1);
        calls += 2;
        int swaps = 0;
        while (left(1)) {
            Check.due("10: swap", x.swap(0, 1), true);
            swaps++;
        }
        Check.due("7: the last call", x.line(0), swaps % 2);
    }

    private static void undone() {
        open(TWO);
        while (left(3)) {
            x.minute();
            x.minute();
            Check.due("12: undone", x.undo(), true);
        }
        // Of the sixteen that could be the last was undone.
        Check.due("36: the last call", x.count(10), 15);
    }

    private static void marks() {
        open(TWO);
        int rounds = 0;
        while (left(3)) {
            Check.due("35: laid", x.mark(rounds % 4, false), true);
            x.minute();
            Check.due("35: back", x.mark(rounds % 4, true), true);
            rounds++;
        }
        Check.due("36: the last call", x.count(2), 0);
    }

    private static void offices() {
        x = new HeldMusic();
        int taken = 0;
        for (calls = 0; calls + 3 <= MOST; calls += 2) {
            taken = taken % 20 + 1;
            String text = "takes " + taken + ";";
            x.feed(Check.eight(text, 0), Check.eight(text, 8), 0);
            Check.due("3: office", x.office(), 0);
        }
        Check.due("36: the last call", x.count(1), taken);
    }

    private static void days() {
        open(TWO);
        int rounds = 0;
        while (left(2)) {
            String text = rounds % 2 == 0 ? "minute;" : "minute;minute;";
            x.feed(Check.eight(text, 0), Check.eight(text, 8), 0);
            Check.due("4: day", x.day(), 0);
            rounds++;
        }
        Check.due("36: the last call", x.count(8), 2 - rounds % 2);
    }

    private static void meetings() {
        open(TWO);
        int met = 0;
        while (left(24)) {
            x.ring(0);
            x.ring(1);
            for (int i = 0; i < 19; i++) {
                x.minute();
                met++;
            }
            // Nobody is there to be taken up in the twentieth.
            x.off(0);
            x.off(1);
            x.minute();
        }
        Check.due("6: as often as they met", x.met(0, 1), met);
        Check.due("some four hundred times", met > 380, true);
    }

    private static void beyond() {
        open(TWO);
        for (int i = 0; i < 5000; i++) {
            x.feed(0x2020202020202020L, i, -i);
            x.ring(i % 3);
            x.minute();
            x.tell(i % 3, i % 2 == 0);
            x.mark(i % 5, i % 7 == 0);
            x.undo();
            x.days(i % 10001, i % 100, i % 3);
            x.order(i % 4 - 1);
            x.sets(i % 3);
        }
        Check.due("none has thrown", true, true);
    }
}
