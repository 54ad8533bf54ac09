/** The edges of a DAY, of JUDGED and of OTHER: promises 4, 13 and 32; a method for each sentence. */
public final class DayEdgesTest {
    /** Ann and bob settle one another; cy and dee are helped by nobody; cy holds but one minute. */
    private static final String FOUR = "caller ann plain trouble 1 knows 2 holds 30;caller bob plain trouble 2 knows 1 holds 30;"
        + "caller cy plain trouble 9 knows 3 holds 1;caller dee plain trouble 8 knows 4 holds 30;takes 20;";

    public static void main(String[] args) {
        fortyLinesAtMost();
        anyNumberOfLines();
        aDayIsTheDay();
        aDayLeavesAllElse();
        allStaysBehindAFault();
        fromTheBeginning();
        noDay();
        ringThatCantBe();
        offThatCantBe();
        swapThatCantBe();
        aMinuteAlwaysCan();
        theFirstThatCantBe();
        theFirstByWhichSomebodyIsSettled();
        howManyAreAtLast();
        aLineThatCantBeIsLeftOut();
        judgedOthers();
        otherOneToTwenty();
        otherFromTheBeginning();
        otherAtTheTwentiethMinute();
        Check.end("DayEdgesTest");
    }

    private static HeldMusic told(String day) {
        HeldMusic x = Check.opened(FOUR);
        Check.due("4: day of '" + day + "'", Check.day(x, day), 0);
        return x;
    }

    private static void judged(String day, int cant, int settles, int many) {
        HeldMusic x = told(day);
        Check.due("13: first that can't be of '" + day + "'", x.judged(0), cant);
        Check.due("13: first that settles of '" + day + "'", x.judged(1), settles);
        Check.due("13: settled by '" + day + "'", x.judged(2), many);
    }

    private static void fortyLinesAtMost() {
        for (int lines = 38; lines <= 40; lines++) {
            Check.due("36: lines", told("minute;".repeat(lines)).count(8), lines);
        }
        HeldMusic x = told("minute;");
        Check.due("4: forty-one", Check.day(x, "minute;".repeat(41)), Check.fault(5, 280));
        Check.due("36: the elder day", x.count(8), 1);
        // The fortieth line is done, too.
        judged("ring ann;ring bob;" + "off cy;".repeat(37) + "minute;", 2, 39, 2);
        judged("minute;".repeat(39) + "off ann;", 39, -1, 0);
        judged("ring dee;" + "minute;".repeat(19) + "ring cy;".repeat(19) + "minute;", 21, 39, 1);
    }

    private static void anyNumberOfLines() {
        judged("", -1, -1, 0);
        judged(" \n ", -1, -1, 0);
        judged("minute;", -1, -1, 0);
        Check.due("4: with no callers", Check.day(new HeldMusic(), "minute;minute;"), 0);
        HeldMusic x = new HeldMusic();
        Check.day(x, "minute;".repeat(40));
        Check.due("13: nobody there", x.judged(2), 0);
        Check.due("32: nobody there", x.other(1), 0);
    }

    private static void aDayIsTheDay() {
        HeldMusic x = told("ring ann;ring bob;minute;");
        Check.due("13: two", x.judged(2), 2);
        Check.due("4: a shorter one", Check.day(x, "ring ann;"), 0);
        Check.due("36: its lines alone", x.count(8), 1);
        Check.due("13: nobody", x.judged(2), 0);
        Check.due("4: a longer one", Check.day(x, "off ann;ring ann;ring bob;minute;"), 0);
        Check.due("13: two again", x.judged(2), 2);
        Check.due("4: an empty one", Check.day(x, ""), 0);
        Check.due("36: no lines", x.count(8), 0);
        Check.due("13: nobody again", x.judged(2), 0);
    }

    private static void aDayLeavesAllElse() {
        HeldMusic x = Check.opened(FOUR);
        x.ring(0);
        x.ring(3);
        x.minute();
        x.tell(2, true);
        x.mark(1, false);
        int[] before = new int[11];
        for (int what = 0; what < before.length; what++) {
            before[what] = x.count(what);
        }
        Check.day(x, "ring ann;ring bob;minute;minute;");
        x.judged(0);
        x.other(3);
        for (int what = 0; what < before.length; what++) {
            Check.due("4: count " + what, x.count(what), what == 8 ? 4 : before[what]);
        }
        Check.due("4: the mark is there", x.mark(1, true), true);
        Check.due("35: without the day", x.count(8), 0);
    }

    private static void allStaysBehindAFault() {
        String[] wrong = {"?", "minute", "ring cy;ring dee;minute;off eve;", "minute;".repeat(41), "swap ann ann;"};
        for (String text : wrong) {
            HeldMusic x = told("ring ann;ring bob;minute;swap ann bob;");
            x.ring(2);
            x.tell(1, true);
            String before = Seen.of(x);
            Check.due("4: a fault of '" + text + "'", Check.day(x, text) != 0, true);
            Seen.same("4: all stays behind '" + text + "'", Seen.of(x), before);
        }
    }

    private static void fromTheBeginning() {
        HeldMusic x = told("ring ann;ring bob;minute;");
        x.ring(1);
        x.ring(0);
        x.minute();
        Check.due("11: both are settled now", x.count(5), 3);
        Check.due("13: yet they ring from the beginning", x.judged(0), -1);
        Check.due("13: and are settled", x.judged(2), 2);
        Check.day(x, "minute;");
        Check.due("13: who is settled now is not from the beginning", x.judged(2), 0);
        Check.due("32: nor by other takes", x.other(1), 0);
        Check.day(x, "ring cy;ring dee;minute;");
        Check.due("13: with the answers as told", x.judged(2), 0);
        // Minutes are counted from the beginning, too.
        x = told("ring dee;" + "minute;".repeat(20));
        x.minute();
        Check.due("13: taken up in the 20th", x.judged(1), 20);
    }

    private static void noDay() {
        HeldMusic x = Check.opened(FOUR);
        Check.due("13: none that can't be", x.judged(0), -1);
        Check.due("13: none that settles", x.judged(1), -1);
        Check.due("13: nobody", x.judged(2), 0);
        Check.due("32: nobody", x.other(20), 0);
        x = new HeldMusic();
        Check.due("13: at first", x.judged(0), -1);
        Check.due("13: at first", x.judged(2), 0);
        Check.due("32: at first", x.other(1), 0);
    }

    private static void ringThatCantBe() {
        judged("ring ann;ring ann;", 1, -1, 0);
        judged("ring ann;ring bob;minute;ring ann;", 3, 2, 2);
        judged("ring ann;off ann;ring ann;", -1, -1, 0);
        judged("ring cy;minute;ring cy;", -1, -1, 0);
        judged("ring ann;ring bob;ring cy;ring dee;", -1, -1, 0);
    }

    private static void offThatCantBe() {
        judged("off ann;", 0, -1, 0);
        judged("ring bob;off ann;", 1, -1, 0);
        judged("ring ann;off ann;off ann;", 2, -1, 0);
        judged("ring cy;minute;off cy;", 2, -1, 0);
        judged("ring ann;ring bob;minute;off bob;", 3, 2, 2);
    }

    private static void swapThatCantBe() {
        judged("swap ann bob;", 0, -1, 0);
        judged("ring ann;swap ann bob;", 1, -1, 0);
        judged("ring ann;swap bob ann;", 1, -1, 0);
        judged("ring ann;ring bob;swap ann bob;swap ann bob;", -1, -1, 0);
        judged("ring ann;ring cy;swap ann cy;minute;swap ann cy;", 4, -1, 0);
        // Ann, dee, bob, by a swap ann, bob, dee.
        judged("ring ann;ring dee;ring bob;swap dee bob;minute;", -1, 4, 2);
        judged("ring ann;ring dee;ring bob;minute;", -1, -1, 0);
    }

    private static void aMinuteAlwaysCan() {
        judged("minute;minute;", -1, -1, 0);
        judged("ring ann;minute;off ann;minute;", -1, -1, 0);
    }

    private static void theFirstThatCantBe() {
        judged("off ann;off bob;", 0, -1, 0);
        judged("ring ann;off bob;off cy;", 1, -1, 0);
        judged("minute;".repeat(10) + "swap ann bob;ring ann;ring ann;", 10, -1, 0);
    }

    private static void theFirstByWhichSomebodyIsSettled() {
        judged("ring ann;ring bob;minute;ring dee;" + "minute;".repeat(19), -1, 2, 3);
        judged("ring dee;" + "minute;".repeat(19), -1, -1, 0);
        judged("ring dee;" + "minute;".repeat(20), -1, 20, 1);
        HeldMusic x = Check.opened("caller a plain trouble 1 knows 1 holds 1;");
        Check.day(x, "ring a;minute;");
        Check.due("13: settled by the minute, not by the ringing", x.judged(1), 1);
        Check.day(x, "ring a;");
        Check.due("13: not by the ringing alone", x.judged(1), -1);
    }

    private static void howManyAreAtLast() {
        // Nobody is waited for when the day is over.
        judged("ring ann;ring bob;", -1, -1, 0);
        judged("ring ann;ring bob;minute;", -1, 2, 2);
        HeldMusic x = Check.opened("takes 1;caller a plain trouble 9 knows 1 holds 9;caller b plain trouble 9 knows 2 holds 9;"
            + "caller c plain trouble 9 knows 1 holds 9;caller d plain trouble 9 knows 2 holds 9;"
            + "caller e plain trouble 9 knows 1 holds 9;caller f plain trouble 9 knows 2 holds 9;");
        Check.day(x, "ring a;ring b;ring c;ring d;ring e;ring f;minute;minute;minute;minute;minute;");
        Check.due("13: five of six", x.judged(2), 5);
        Check.day(x, "ring a;ring b;ring c;ring d;ring e;ring f;minute;minute;minute;minute;minute;minute;minute;");
        Check.due("13: all six", x.judged(2), 6);
    }

    private static void aLineThatCantBeIsLeftOut() {
        // Who rings a second time keeps his place and what he has held.
        judged("ring ann;ring dee;ring ann;ring bob;minute;", 2, -1, 0);
        judged("off bob;swap ann bob;ring ann;ring bob;minute;", 0, 4, 2);
        HeldMusic x = Check.opened("caller a plain trouble 9 knows 1 holds 2;takes 3;");
        Check.day(x, "ring a;minute;ring a;minute;minute;");
        Check.due("13: off behind two minutes for all that", x.judged(2), 0);
        Check.day(x, "ring a;minute;off a;ring a;minute;minute;");
        Check.due("13: off and anew, off again in the third", x.judged(2), 0);
        Check.day(x, "minute;minute;ring a;minute;");
        Check.due("13: taken up in the third", x.judged(2), 1);
    }

    private static void judgedOthers() {
        HeldMusic x = told("off ann;");
        int[] others = {-1, -2, 3, 4, Integer.MIN_VALUE, Integer.MAX_VALUE};
        for (int what : others) {
            Check.due("13: what " + what, x.judged(what), -2);
        }
        Check.due("13: what 0", x.judged(0), 0);
        Check.due("13: what 2", x.judged(2), 0);
    }

    private static void otherOneToTwenty() {
        HeldMusic x = told("ring dee;" + "minute;".repeat(20));
        int[] others = {0, -1, 21, 22, Integer.MIN_VALUE, Integer.MAX_VALUE};
        for (int takes : others) {
            Check.due("32: takes " + takes, x.other(takes), -1);
        }
        for (int takes = 1; takes <= 20; takes++) {
            Check.due("32: takes " + takes, x.other(takes), 1);
        }
        Check.due("36: takes stays", x.count(1), 20);
        Check.due("13: judged by the takes as told", x.judged(1), 20);
    }

    private static void otherFromTheBeginning() {
        HeldMusic x = told("ring cy;ring dee;minute;");
        x.ring(3);
        x.minute();
        // In the very first minute cy is off before dee, behind him, is taken up.
        Check.due("32: takes 1", x.other(1), 1);
        Check.due("32: takes 2", x.other(2), 0);
        Check.due("36: nothing is done", x.count(4), 8);
        Check.due("36: nobody is taken up", x.count(7), 0);
    }

    private static void otherAtTheTwentiethMinute() {
        HeldMusic x = told("ring dee;" + "minute;".repeat(19));
        Check.due("32: takes 19", x.other(19), 1);
        Check.due("32: takes 20", x.other(20), 0);
        Check.day(x, "ring dee;ring ann;" + "minute;".repeat(20));
        Check.due("32: takes 10, twice", x.other(10), 2);
        Check.due("32: takes 11, once", x.other(11), 1);
        Check.due("32: takes 20, once", x.other(20), 1);
    }
}
