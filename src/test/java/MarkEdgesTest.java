/** The edges of MARKS and of count: promises 35 and 36; a method for each sentence. */
public final class MarkEdgesTest {
    private static final String FOUR = "caller a plain trouble 1 knows 2 holds 9;caller b plain trouble 2 knows 1 holds 9;"
        + "caller c plain trouble 9 knows 3 holds 9;caller d plain trouble 8 knows 4 holds 9;takes 3;";

    public static void main(String[] args) {
        marksZeroToThree();
        nothingIsOnIt();
        aMarkHoldsHowItIs();
        aMarkHoldsTheDay();
        aMarkHoldsWhatIsTold();
        aMarkDoesNotHoldTheTape();
        nothingCanBeUndoneThen();
        layingChangesNothing();
        goneBackToAgain();
        laidAnew();
        eachMarkIsItsOwn();
        marksOfNoOffice();
        noMarkBehindAnOffice();
        marksStayBehindAFault();
        whatIsLaidStaysAsItWas();
        countOthers();
        countCallersAndTakes();
        countTheMinute();
        countTheLine();
        countSettledAndTakenUp();
        countAnswers();
        countLines();
        countTold();
        countUndone();
        countSigns();
        Check.end("MarkEdgesTest");
    }

    private static HeldMusic rung(String office, int... callers) {
        HeldMusic x = Check.opened(office);
        for (int who : callers) {
            x.ring(who);
        }
        return x;
    }

    private static void marksZeroToThree() {
        HeldMusic x = rung(FOUR, 0);
        int[] others = {-1, -2, 4, 5, 32, Integer.MIN_VALUE, Integer.MAX_VALUE};
        for (int mark : others) {
            Check.due("35: laying " + mark, x.mark(mark, false), false);
            Check.due("35: back to " + mark, x.mark(mark, true), false);
        }
        for (int mark = 0; mark <= 3; mark++) {
            Check.due("35: laying " + mark, x.mark(mark, false), true);
            Check.due("35: back to " + mark, x.mark(mark, true), true);
        }
    }

    private static void nothingIsOnIt() {
        for (int laid = 0; laid <= 3; laid++) {
            HeldMusic x = rung(FOUR, 0, 1);
            x.mark(laid, false);
            x.minute();
            for (int mark = 0; mark <= 3; mark++) {
                if (mark != laid) {
                    Check.due("35: nothing on " + mark, x.mark(mark, true), false);
                }
            }
            Check.due("35: refused, nothing is changed", x.count(2), 1);
            Check.due("35: what can be undone is", x.count(10), 3);
            Check.due("35: something on " + laid, x.mark(laid, true), true);
        }
    }

    private static void aMarkHoldsHowItIs() {
        HeldMusic x = rung(FOUR, 2, 0, 3, 1);
        x.minute();
        x.swap(2, 1);
        x.minute();
        x.minute();
        x.mark(1, false);
        // But for what can be undone, all is seen alike.
        String before = Seen.of(x).replaceAll("count10 \\d+", "");
        x.minute();
        x.ring(0);
        x.off(3);
        x.swap(2, 3);
        x.minute();
        x.mark(1, true);
        Seen.same("35: as it was", Seen.of(x).replaceAll("count10 \\d+", ""), before);
        Check.due("35: taken up stays so", x.count(7) != 0, true);
        Check.due("35: the minute", x.count(2), 3);
    }

    private static void aMarkHoldsTheDay() {
        HeldMusic x = Check.opened(FOUR);
        Check.day(x, "ring a;ring b;minute;");
        x.mark(0, false);
        Check.day(x, "off a;minute;");
        Check.due("13: the newer day", x.judged(0), 0);
        x.mark(0, true);
        Check.due("36: the elder one's lines", x.count(8), 3);
        Check.due("13: the elder one", x.judged(0), -1);
        Check.due("13: the elder one", x.judged(2), 2);
        // Each word of a line is held: by the elder day a and b stand together.
        Check.day(x, "ring a;ring c;ring b;swap c b;minute;");
        x.mark(1, false);
        Check.day(x, "ring d;ring a;ring c;swap a c;off d;");
        x.mark(1, true);
        Check.due("13: a and b", x.judged(2), 2);
        Check.due("13: all can be", x.judged(0), -1);
        Check.day(x, "ring a;ring b;minute;");
        x.mark(1, false);
        Check.day(x, "minute;".repeat(40));
        x.mark(2, false);
        x.mark(1, true);
        Check.due("36: three lines", x.count(8), 3);
        x.mark(2, true);
        Check.due("36: forty lines", x.count(8), 40);
        Check.day(x, "");
        x.mark(3, false);
        x.mark(2, true);
        x.mark(3, true);
        Check.due("36: no lines", x.count(8), 0);
    }

    private static void aMarkHoldsWhatIsTold() {
        HeldMusic x = Check.opened(FOUR);
        x.mark(0, false);
        x.tell(0, true);
        x.mark(1, false);
        x.tell(0, false);
        x.tell(1, false);
        x.mark(2, false);
        x.mark(0, true);
        Check.due("36: nothing is told", x.count(9), 0);
        Check.due("29: all sets", x.sets(0), 16);
        x.mark(1, true);
        Check.due("36: of one", x.count(9), 1);
        // A is settled with b behind her, or where she is taken up in the third minute as the first.
        Check.due("29: a is settled", x.sets(1) & 1, 1);
        x.mark(2, true);
        Check.due("36: of two", x.count(9), 2);
        Check.due("29: neither a nor b", x.sets(2) & 3, 0);
    }

    private static void aMarkDoesNotHoldTheTape() {
        HeldMusic x = Check.opened(FOUR);
        Check.feed(x, "minute;");
        x.mark(0, false);
        Check.feed(x, "minute;");
        x.mark(0, true);
        Check.due("36: all that was fed", x.count(11), 14);
        Check.due("4: read whole", x.day(), 0);
        x.mark(0, true);
        Check.due("36: taken", x.count(11), 0);
    }

    private static void nothingCanBeUndoneThen() {
        HeldMusic x = rung(FOUR, 0, 1);
        x.mark(0, false);
        Check.due("36: laying leaves it", x.count(10), 2);
        x.minute();
        x.mark(0, true);
        Check.due("36: nothing", x.count(10), 0);
        Check.due("12: nothing", x.undo(), false);
        x.minute();
        Check.due("36: one again", x.count(10), 1);
        Check.due("12: it can be", x.undo(), true);
        Check.due("12: no more", x.undo(), false);
        Check.due("36: as laid", x.count(3), 2);
        // Sixteen again behind it.
        x.mark(0, true);
        for (int i = 0; i < 20; i++) {
            x.minute();
        }
        for (int i = 0; i < 16; i++) {
            Check.due("12: sixteen", x.undo(), true);
        }
        Check.due("12: not seventeen", x.undo(), false);
        Check.due("12: the fourth minute", x.count(2), 4);
    }

    private static void layingChangesNothing() {
        HeldMusic x = rung(FOUR, 0, 2);
        x.minute();
        x.tell(1, true);
        Check.day(x, "minute;");
        String before = Seen.of(x);
        for (int mark = 0; mark <= 3; mark++) {
            x.mark(mark, false);
        }
        Seen.same("35: nothing is changed", Seen.of(x), before);
        Check.due("12: it can be undone", x.undo(), true);
    }

    private static void goneBackToAgain() {
        HeldMusic x = rung(FOUR, 0);
        x.mark(3, false);
        for (int i = 0; i < 3; i++) {
            x.ring(1);
            x.minute();
            Check.due("36: settled", x.count(5), 3);
            Check.due("35: back", x.mark(3, true), true);
            Check.due("36: nobody", x.count(5), 0);
            Check.due("36: one on it", x.count(4), 1);
        }
    }

    private static void laidAnew() {
        HeldMusic x = rung(FOUR, 0);
        x.mark(0, false);
        x.ring(1);
        Check.due("35: laid anew", x.mark(0, false), true);
        x.ring(2);
        x.mark(0, true);
        Check.due("35: the newer", x.count(4), 3);
    }

    private static void eachMarkIsItsOwn() {
        HeldMusic x = Check.opened(FOUR);
        for (int mark = 0; mark <= 3; mark++) {
            x.ring(mark);
            x.tell(mark, true);
            Check.day(x, "minute;".repeat(mark));
            x.mark(mark, false);
        }
        int[] turn = {2, 0, 3, 1, 1, 0};
        for (int mark : turn) {
            Check.due("35: back", x.mark(mark, true), true);
            Check.due("35: its line", x.count(3), mark + 1);
            Check.due("35: its day", x.count(8), mark);
            Check.due("35: its told", x.count(9), mark + 1);
        }
    }

    private static void marksOfNoOffice() {
        HeldMusic x = new HeldMusic();
        Check.due("35: laid at first", x.mark(0, false), true);
        x.minute();
        Check.day(x, "minute;minute;");
        Check.due("35: back", x.mark(0, true), true);
        Check.due("36: minute 0", x.count(2), 0);
        Check.due("36: no day", x.count(8), 0);
        Check.due("36: takes 5", x.count(1), 5);
    }

    private static void noMarkBehindAnOffice() {
        HeldMusic x = rung(FOUR, 0);
        for (int mark = 0; mark <= 3; mark++) {
            x.mark(mark, false);
        }
        Check.due("3: the same office", Check.office(x, FOUR), 0);
        for (int mark = 0; mark <= 3; mark++) {
            Check.due("35: none", x.mark(mark, true), false);
        }
        Check.due("35: laid again", x.mark(2, false), true);
        Check.due("35: back", x.mark(2, true), true);
        Check.due("35: of the newer one", x.count(3), 0);
        Check.due("3: an office of nothing", Check.office(x, ""), 0);
        Check.due("35: none", x.mark(2, true), false);
    }

    private static void marksStayBehindAFault() {
        HeldMusic x = rung(FOUR, 0);
        x.mark(2, false);
        x.off(0);
        Check.office(x, "?");
        Check.day(x, "?");
        Check.due("35: there", x.mark(2, true), true);
        Check.due("35: as laid", x.count(4), 1);
    }

    private static void whatIsLaidStaysAsItWas() {
        // Neither what is done, nor undone, nor told, nor asked changes what a mark holds.
        HeldMusic x = rung(FOUR, 0);
        Check.day(x, "ring a;minute;");
        x.tell(0, true);
        x.mark(0, false);
        x.undo();
        x.tell(0, false);
        Check.day(x, "minute;");
        x.order(-1);
        x.days(5, 50, 0);
        x.judged(2);
        x.mark(0, true);
        Check.due("36: on the line", x.count(4), 1);
        Check.due("36: two lines", x.count(8), 2);
        // By herself she is taken up in the third minute: she is settled at last by each set.
        Check.due("29: told as it was", x.sets(0), 8);
        x.tell(0, false);
        Check.due("29: told otherwise", x.sets(0), 0);
    }

    private static void countOthers() {
        HeldMusic x = rung(FOUR, 0);
        int[] others = {-1, -2, 12, 13, Integer.MIN_VALUE, Integer.MAX_VALUE};
        for (int what : others) {
            Check.due("36: what " + what, x.count(what), -1);
            Check.due("36: what " + what, new HeldMusic().count(what), -1);
        }
    }

    private static void countCallersAndTakes() {
        Check.due("36: none", Check.opened("").count(0), 0);
        Check.due("36: four", Check.opened(FOUR).count(0), 4);
        Check.due("36: takes 3", Check.opened(FOUR).count(1), 3);
        Check.due("36: takes 5", Check.opened("").count(1), 5);
    }

    private static void countTheMinute() {
        HeldMusic x = Check.opened(FOUR);
        Check.due("36: 0", x.count(2), 0);
        x.minute();
        Check.due("36: 1", x.count(2), 1);
        x.undo();
        Check.due("36: 0 again", x.count(2), 0);
        x.empty();
        x.days(1, 99, 0);
        Check.due("36: 0 still", x.count(2), 0);
    }

    private static void countTheLine() {
        HeldMusic x = Check.opened(FOUR);
        int[] turn = {3, 0, 2, 1};
        int bits = 0;
        for (int i = 0; i < 4; i++) {
            Check.due("36: how many", x.count(3), i);
            Check.due("36: who", x.count(4), bits);
            x.ring(turn[i]);
            bits |= 1 << turn[i];
        }
        Check.due("36: all", x.count(3), 4);
        Check.due("36: all", x.count(4), 15);
    }

    private static void countSettledAndTakenUp() {
        HeldMusic x = rung(FOUR, 2, 3, 0, 1);
        x.minute();
        Check.due("36: settled by talk", x.count(5), 3);
        Check.due("36: nobody taken up", x.count(7), 0);
        x.minute();
        x.minute();
        Check.due("36: and one taken up", x.count(5), 7);
        Check.due("36: he", x.count(7), 4);
        x.minute();
        x.minute();
        x.minute();
        Check.due("36: both", x.count(7), 12);
        Check.due("36: all", x.count(5), 15);
    }

    private static void countAnswers() {
        Check.due("36: none", new HeldMusic().count(6), 0);
        HeldMusic x = rung(FOUR, 2, 3);
        Check.due("36: four", x.count(6), 4);
        x.minute();
        Check.due("36: six", x.count(6), 6);
        x.off(2);
        x.off(3);
        Check.due("36: of those off the line, too", x.count(6), 6);
        x = Check.opened("caller a plain trouble 1 knows 0 1 2 3 4 5 holds 1;caller b plain trouble 1 knows 0 1 2 3 4 5 holds 1;");
        Check.due("36: the same ones twice", x.count(6), 12);
    }

    private static void countLines() {
        HeldMusic x = Check.opened(FOUR);
        Check.due("36: no day", x.count(8), 0);
        Check.day(x, "minute;");
        Check.due("36: one", x.count(8), 1);
        Check.day(x, "minute;".repeat(40));
        Check.due("36: forty", x.count(8), 40);
        Check.day(x, "minute;".repeat(41));
        Check.due("36: forty still", x.count(8), 40);
    }

    private static void countTold() {
        HeldMusic x = Check.opened(FOUR);
        for (int who = 0; who < 4; who++) {
            x.tell(who, who % 2 == 0);
            Check.due("36: told of", x.count(9), who + 1);
            x.tell(who, who % 2 != 0);
            Check.due("36: of each once", x.count(9), who + 1);
        }
        x.tell(4, true);
        Check.due("36: not of others", x.count(9), 4);
    }

    private static void countUndone() {
        HeldMusic x = Check.opened(FOUR);
        x.ring(0);
        x.ring(1);
        x.swap(0, 1);
        x.off(0);
        x.minute();
        Check.due("36: each of them", x.count(10), 5);
        x.undo();
        Check.due("36: one less", x.count(10), 4);
        for (int i = 0; i < 30; i++) {
            x.minute();
        }
        Check.due("36: sixteen at most", x.count(10), 16);
    }

    private static void countSigns() {
        HeldMusic x = Check.opened(FOUR);
        Check.due("36: read", x.count(11), 0);
        Check.feed(x, "?");
        Check.due("36: one", x.count(11), 1);
        x.day();
        Check.due("36: taken by a fault, too", x.count(11), 0);
    }
}
