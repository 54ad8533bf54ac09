/** Promises 5 to 13, 35 and 36: what is done by hand, undone, judged, marked and counted. */
public final class HandTest {
    private static final String FIVE = "caller ann plain trouble 1 knows 2 holds 9;"
        + "caller bob shy trouble 2 knows 1 3 holds 4;caller cy gossip trouble 3 knows 5 holds 6;"
        + "caller dee deaf trouble 5 knows 3 4 holds 3;caller eve plain trouble 7 knows 0 holds 2;takes 4;";
    /** One with trouble that nobody knows an answer to, who holds long. */
    private static final String LONG = "caller a plain trouble 9 knows 0 holds 30;caller b plain trouble 9 knows 1 holds 30;";

    public static void main(String[] args) {
        callers();
        ringing();
        ringingOff();
        swapping();
        telling();
        gossip();
        ownAnswerSettles();
        holding();
        takenUp();
        believing();
        lawValues();
        undoing();
        judging();
        marking();
        counting();
        Check.end("HandTest");
    }

    private static void callers() {
        HeldMusic x = Check.opened(FIVE);
        int[] bob = {1, 2, 4, 10, 0, -1, 0, -2};
        for (int what = 0; what < bob.length; what++) {
            Check.due("5: bob " + what, x.caller(1, what), bob[what]);
        }
        Check.due("5: what -1", x.caller(1, -1), -2);
        Check.due("5: caller -1", x.caller(-1, 0), -2);
        Check.due("5: caller 5", x.caller(5, 0), -2);
        Check.due("5: caller far", x.caller(Integer.MIN_VALUE, 0), -2);
        Check.due("6: none yet", x.met(0, 1), 0);
        Check.due("6: the same", x.met(1, 1), -1);
        Check.due("6: others", x.met(1, 5), -1);
        Check.due("6: others", x.met(-1, 1), -1);
        Check.due("7: none", x.line(0), -1);
        Check.due("7: far", x.line(Integer.MAX_VALUE), -1);
    }

    private static void ringing() {
        HeldMusic x = Check.opened(FIVE);
        Check.due("8: first", x.ring(4), 0);
        Check.due("8: second", x.ring(0), 1);
        Check.due("8: on it", x.ring(4), -1);
        Check.due("8: others", x.ring(5), -1);
        Check.due("8: others", x.ring(-1), -1);
        Check.due("8: two can be undone", x.count(10), 2);
        Check.due("7: line 0", x.line(0), 4);
        Check.due("7: line 1", x.line(1), 0);
        Check.due("7: line 2", x.line(2), -1);
        Check.due("7: line -1", x.line(-1), -1);
        Check.due("5: place", x.caller(0, 5), 1);
        Check.due("11: nobody", x.minute(), 0);
        Check.due("6: met", x.met(0, 4), 1);
        Check.due("6: met, the other way", x.met(4, 0), 1);
        Check.due("5: held", x.caller(4, 6), 1);
        x.off(4);
        Check.due("8: again", x.ring(4), 1);
        Check.due("5: held from 0 again", x.caller(4, 6), 0);
    }

    private static void ringingOff() {
        HeldMusic x = Check.opened(FIVE);
        x.ring(0);
        x.ring(1);
        x.ring(2);
        Check.due("9: others", x.off(5), false);
        Check.due("9: others", x.off(-1), false);
        Check.due("9: not on it", x.off(3), false);
        Check.due("9: off", x.off(1), true);
        Check.due("9: twice", x.off(1), false);
        Check.due("9: behind moves up", x.line(1), 2);
        Check.due("9: two there", x.count(3), 2);
        Check.due("9: bits", x.count(4), 5);
    }

    private static void swapping() {
        HeldMusic x = Check.opened(FIVE);
        x.ring(0);
        x.ring(1);
        x.ring(2);
        Check.due("10: the same", x.swap(1, 1), false);
        Check.due("10: not both", x.swap(1, 3), false);
        Check.due("10: not both", x.swap(3, 1), false);
        Check.due("10: others", x.swap(1, 5), false);
        Check.due("10: others", x.swap(-1, 1), false);
        Check.due("10: nothing done", x.count(10), 3);
        Check.due("10: swap", x.swap(2, 0), true);
        Check.due("10: line 0", x.line(0), 2);
        Check.due("10: line 1", x.line(1), 1);
        Check.due("10: line 2", x.line(2), 0);
    }

    private static void telling() {
        // The first tells first, so the second tells all back.
        HeldMusic x = Check.opened("caller a plain trouble 9 knows 1 holds 30;caller b plain trouble 8 knows 2 holds 30;"
            + "caller s shy trouble 7 knows 3 8 9 holds 30;caller d deaf trouble 6 knows 4 holds 30;");
        x.ring(0);
        x.ring(1);
        Check.due("11: nobody", x.minute(), 0);
        Check.due("11: a has both", x.caller(0, 3), 6);
        Check.due("11: b has both", x.caller(1, 3), 6);
        x.ring(2);
        x.ring(3);
        // s and d behind them: s tells d nothing, d hears nothing, s hears d's.
        Check.due("11: nobody again", x.minute(), 0);
        Check.due("11: s has d's", x.caller(2, 3), 1 << 3 | 1 << 8 | 1 << 9 | 1 << 4);
        Check.due("11: d has his", x.caller(3, 3), 1 << 4);
        x.swap(0, 3);
        // d and b, s and a: s tells a the answer to a's trouble alone.
        Check.due("11: a is settled", x.minute(), 1);
        Check.due("11: a's answers", x.caller(0, 3), 6 | 1 << 9);
        Check.due("11: b has d's", x.caller(1, 3), 6 | 1 << 4);
        Check.due("11: off the line", x.caller(0, 5), -1);
        Check.due("5: settled", x.caller(0, 4), 1);
        Check.due("8: settled, can't", x.ring(0), -1);
        Check.due("6: a and b", x.met(0, 1), 2);
    }

    private static void gossip() {
        String office = "caller g gossip trouble 9 knows 1 holds 30;caller p plain trouble 9 knows 2 holds 30;"
            + "caller q plain trouble 9 knows 3 holds 30;";
        HeldMusic x = Check.opened(office);
        x.ring(0);
        x.ring(1);
        x.ring(2);
        x.minute();
        Check.due("11: p has q's by g", x.caller(1, 3), 14);
        Check.due("11: g hears them back", x.caller(0, 3), 14);
        Check.due("11: q hears music", x.caller(2, 3), 8);
        x = Check.opened(office);
        x.ring(1);
        x.ring(0);
        x.ring(2);
        x.minute();
        Check.due("11: p has q's by g, second", x.caller(1, 3), 14);
        Check.due("11: g does not keep them", x.caller(0, 3), 6);
        x = Check.opened(office);
        x.ring(2);
        x.ring(1);
        x.ring(0);
        x.minute();
        Check.due("11: none behind a gossip alone", x.caller(1, 3), 12);
    }

    private static void ownAnswerSettles() {
        HeldMusic x = Check.opened("caller a plain trouble 1 knows 1 holds 1;");
        x.ring(0);
        Check.due("11: settled alone before he is off", x.minute(), 1);
        Check.due("36: nobody taken up", x.count(7), 0);
    }

    private static void holding() {
        HeldMusic x = Check.opened("caller a plain trouble 1 knows 2 holds 2;takes 20;");
        x.ring(0);
        x.minute();
        Check.due("11: holds still", x.count(3), 1);
        Check.due("5: held", x.caller(0, 6), 1);
        Check.due("11: off", x.minute(), 0);
        Check.due("11: off the line", x.count(3), 0);
        Check.due("11: not settled", x.count(5), 0);
        Check.due("5: held no more", x.caller(0, 6), 0);
        Check.due("8: rings again", x.ring(0), 0);
    }

    private static void takenUp() {
        HeldMusic x = Check.opened("takes 2;caller a plain trouble 9 knows 0 holds 2;caller b plain trouble 8 knows 0 holds 9;");
        x.ring(0);
        x.ring(1);
        Check.due("11: minute 1", x.minute(), 0);
        // Who is off in that minute is not taken up; the next one is.
        Check.due("11: minute 2", x.minute(), 2);
        Check.due("36: taken up", x.count(7), 2);
        Check.due("5: he has the answer", x.caller(1, 3), 257);
        x.ring(0);
        Check.due("11: minute 3", x.minute(), 0);
        x.off(0);
        x.ring(0);
        Check.due("11: minute 4", x.minute(), 1);
        Check.due("36: taken up both", x.count(7), 3);
        Check.due("36: the minute", x.count(2), 4);
        Check.due("11: minute 5", x.minute(), 0);
        Check.due("11: minute 6, nobody there", x.minute(), 0);
    }

    private static void believing() {
        String two = "caller a plain trouble 9 knows 1 holds 30;caller b plain trouble 9 knows 2 3 holds 30;takes 20;";
        HeldMusic x = Check.opened(two + "believes met=2;");
        x.ring(0);
        x.ring(1);
        x.minute();
        Check.due("met 1: not believed", x.count(6), 3);
        x.minute();
        Check.due("met 2: believed", x.count(6), 6);
        x = Check.opened(two + "believes own<theirs;");
        x.ring(0);
        x.ring(1);
        x.minute();
        Check.due("b does not believe a", x.caller(1, 3), 12);
        Check.due("a believes b", x.caller(0, 3), 14);
        x = Check.opened(two + "believes held=1 and own<theirs or held=2;");
        x.ring(0);
        x.minute();
        x.ring(1);
        x.minute();
        Check.due("a held 1: believes", x.caller(0, 3), 14);
        Check.due("b held 0: does not", x.caller(1, 3), 12);
        x.minute();
        x.minute();
        Check.due("b held 2: does", x.caller(1, 3), 14);
    }

    /** Whether one believes by a law that is a number. */
    private static void law(String law, boolean want) {
        HeldMusic x = Check.opened("caller a plain trouble 9 knows 1 holds 30;caller b plain trouble 9 knows 2 holds 30;"
            + "believes " + law + ";");
        Check.due("believes " + law, x.hears(0, 1), want ? 4 : 0);
    }

    private static void lawValues() {
        law("0", false);
        law("9999", true);
        law("0-1", true);
        law("1 or 1 and 0", false);
        law("0 and 1 or 1", true);
        law("1 or 0 = 1", true);
        law("0 = 1 or 0", false);
        law("7 and 2 = 1", false);
        law("(7 and 2) = 1", true);
        law("not 5", false);
        law("not 0 + 1 = 2", true);
        law("not (0 + 1)", false);
        law("not not 7 = 1", true);
        law("2+3*4=14", true);
        law("(2+3)*4=20", true);
        law("10-3-2=5", true);
        law("10-3+2=9", true);
        law("3<3", false);
        law("2<3", true);
        law("1-2<0", true);
        law("(1<2)<2", true);
        law("8192*8192*32<0", true);
        law("8192*8192*64=0", true);
        law("8192*8192*64", false);
        law("met=1 and held=0 and own=1 and theirs=1", true);
        law("0 or (1 and (0 or (1 and 1)))", true);
    }

    private static void undoing() {
        HeldMusic x = Check.opened("takes 3;" + LONG);
        Check.due("12: nothing", x.undo(), false);
        x.ring(0);
        x.ring(1);
        x.swap(0, 1);
        x.tell(0, true);
        x.minute();
        x.off(1);
        Check.due("36: five", x.count(10), 5);
        Check.due("12: off", x.undo(), true);
        Check.due("12: on it again", x.line(0), 1);
        Check.due("12: held as before", x.caller(1, 6), 1);
        Check.due("12: minute", x.undo(), true);
        Check.due("12: answers", x.count(6), 2);
        Check.due("12: met", x.met(0, 1), 0);
        Check.due("12: the minute", x.count(2), 0);
        Check.due("12: held", x.caller(1, 6), 0);
        Check.due("12: what is told stays", x.count(9), 1);
        Check.due("12: swap", x.undo(), true);
        Check.due("12: places", x.line(0), 0);
        Check.due("12: ring", x.undo(), true);
        Check.due("12: ring", x.undo(), true);
        Check.due("12: no more", x.undo(), false);
        for (int i = 0; i < 20; i++) {
            x.minute();
        }
        Check.due("12: sixteen", x.count(10), 16);
        for (int i = 0; i < 16; i++) {
            Check.due("12: one of sixteen", x.undo(), true);
        }
        Check.due("12: the 17th", x.undo(), false);
        Check.due("12: four stay", x.count(2), 4);
        x.ring(0);
        x.minute();
        Check.due("12: not taken at 5", x.count(7), 0);
        x.minute();
        Check.due("12: taken at 6", x.count(7), 1);
        x.undo();
        Check.due("12: taken no more", x.count(7), 0);
        Check.due("12: settled no more", x.count(5), 0);
    }

    private static void judging() {
        HeldMusic x = Check.opened(FIVE);
        Check.due("13: no day", x.judged(0), -1);
        Check.due("13: no day", x.judged(1), -1);
        Check.due("13: no day", x.judged(2), 0);
        Check.due("13: others", x.judged(-1), -2);
        Check.due("13: others", x.judged(3), -2);
        Check.due("day", Check.day(x, "minute;ring ann;ring bob;minute;swap ann bob;off ann;ring ann;"), 0);
        // Ann and bob settle one another in the first minute that they hold.
        Check.due("13: the swap can't be", x.judged(0), 4);
        Check.due("13: first settled", x.judged(1), 3);
        Check.due("13: how many", x.judged(2), 2);
        x.ring(4);
        Check.due("13: from the beginning", x.judged(2), 2);
        Check.due("13: nothing is changed", x.count(4), 16);
        Check.due("day", Check.day(x, "off ann;"), 0);
        Check.due("13: the first line", x.judged(0), 0);
        Check.due("day", Check.day(x, "ring ann;minute;"), 0);
        Check.due("13: all can be", x.judged(0), -1);
        Check.due("13: nobody", x.judged(1), -1);
        Check.due("13: not run out at the end", x.judged(2), 0);
    }

    private static void marking() {
        HeldMusic x = Check.opened(FIVE);
        Check.due("35: none such", x.mark(-1, false), false);
        Check.due("35: none such", x.mark(4, false), false);
        Check.due("35: none such", x.mark(4, true), false);
        Check.due("35: nothing on it", x.mark(3, true), false);
        x.ring(0);
        x.tell(1, false);
        Check.day(x, "minute;");
        Check.due("35: laid", x.mark(3, false), true);
        Check.due("35: laying leaves the undone", x.count(10), 1);
        x.ring(1);
        x.minute();
        x.tell(1, true);
        x.tell(2, true);
        Check.day(x, "minute;minute;");
        Check.feed(x, "abc");
        Check.due("35: back", x.mark(3, true), true);
        int[] want = {5, 4, 0, 1, 1, 0, 7, 0, 1, 1, 0, 3};
        for (int what = 0; what < want.length; what++) {
            Check.due("35: count " + what, x.count(what), want[what]);
        }
        Check.due("35: nothing undone", x.undo(), false);
        Check.due("35: met", x.met(0, 1), 0);
        x.ring(2);
        Check.due("35: back once more", x.mark(3, true), true);
        Check.due("35: line", x.count(3), 1);
        x.off(0);
        Check.due("35: laid anew", x.mark(3, false), true);
        x.ring(0);
        x.mark(3, true);
        Check.due("35: the newer", x.count(3), 0);
        // What was told, bob not settled, is as it was: he is, by any set with ann.
        Check.due("35: told", x.count(9), 1);
    }

    private static void counting() {
        HeldMusic x = Check.opened(FIVE);
        Check.due("36: others", x.count(-1), -1);
        Check.due("36: others", x.count(12), -1);
        Check.due("36: others", x.count(Integer.MIN_VALUE), -1);
        x.tell(0, true);
        x.tell(0, false);
        x.tell(4, false);
        Check.due("36: told of", x.count(9), 2);
        Check.due("36: answers", x.count(6), 7);
        Check.feed(x, "ring ann;");
        Check.due("36: signs", x.count(11), 9);
        x.day();
        Check.due("36: lines", x.count(8), 1);
        Check.due("36: signs", x.count(11), 0);
    }
}
