/** The edges of what is asked of the minutes to come and of now: promises 14 to 18, 21 to 23 and 25 to 27. */
public final class AheadEdgesTest {
    /** Ann and bob settle one another; cy and dee are helped by nobody. */
    private static final String FOUR = "caller a plain trouble 1 knows 2 holds 30;caller b plain trouble 2 knows 1 holds 30;"
        + "caller c plain trouble 9 knows 3 holds 2;caller d plain trouble 8 knows 4 holds 3;takes 20;";
    private static final int[] FAR = {-1, -2, 4, 5, 6, 32, Integer.MIN_VALUE, Integer.MAX_VALUE};

    public static void main(String[] args) {
        nextOfEachPlace();
        nextRefused();
        whenBehindHowMany();
        whenHeIs();
        whenNever();
        whenTakenUp();
        whenOfOneNotOnTheLine();
        whenRefused();
        emptyNobody();
        emptyAsLongAsTheLongest();
        emptyEndsByTaking();
        meetsFirstMinute();
        meetsLater();
        meetsAgain();
        meetsInTheLastMinute();
        meetsRefused();
        spreadBehindAllThese();
        spreadZeroToNine();
        goneByEachWay();
        goneRefused();
        holdersNow();
        holdersZeroToNine();
        hearsByTellingAlone();
        hearsWithNobodyElse();
        hearsMetOnceMore();
        hearsHeldAsNow();
        hearsOfEachKind();
        hearsRefused();
        usualTheMostOften();
        sixCallers();
        usualNobody();
        lostOnTheLine();
        lostOfEachTrouble();
        lostNobody();
        wisestTheFirstOfEqualOnes();
        wisestNobody();
        askingChangesNothing();
        Check.end("AheadEdgesTest");
    }

    private static HeldMusic rung(String office, int... callers) {
        HeldMusic x = Check.opened(office);
        for (int who : callers) {
            x.ring(who);
        }
        return x;
    }

    private static void nextOfEachPlace() {
        HeldMusic x = rung(FOUR, 3);
        Check.due("14: alone", x.next(3), -1);
        x.ring(1);
        Check.due("14: the first of two", x.next(3), 1);
        Check.due("14: the second of two", x.next(1), 3);
        x.ring(0);
        Check.due("14: one left over", x.next(0), -1);
        Check.due("14: the second of three", x.next(1), 3);
        x.ring(2);
        Check.due("14: the third of four", x.next(0), 2);
        Check.due("14: the fourth of four", x.next(2), 0);
        x.swap(3, 2);
        Check.due("14: behind a swap", x.next(3), 0);
    }

    private static void nextRefused() {
        HeldMusic x = rung(FOUR, 0, 1);
        Check.due("14: not on the line", x.next(2), -1);
        for (int who : FAR) {
            Check.due("14: others", x.next(who), -1);
        }
        x.minute();
        Check.due("14: settled", x.next(0), -1);
        Check.due("14: no callers", new HeldMusic().next(0), -1);
    }

    private static void whenBehindHowMany() {
        HeldMusic x = rung(FOUR, 0, 1);
        Check.due("15: behind one", x.when(0), 1);
        Check.due("15: behind one", x.when(1), 1);
        // C, a and b: c is put through to a till c is off behind two.
        x = rung(FOUR, 2, 0, 1);
        Check.due("15: behind three", x.when(0), 3);
        Check.due("15: behind three", x.when(1), 3);
        x.minute();
        Check.due("15: behind two from now", x.when(0), 2);
    }

    private static void whenHeIs() {
        HeldMusic x = rung(FOUR, 0, 1, 2);
        x.minute();
        Check.due("15: 0: he is", x.when(0), 0);
        Check.due("15: 0: she is", x.when(1), 0);
        x.off(2);
        Check.due("15: 0 with nobody on the line", x.when(0), 0);
        x.undo();
        x.undo();
        Check.due("15: not yet again", x.when(0), 1);
    }

    private static void whenNever() {
        HeldMusic x = rung(FOUR, 2, 3);
        Check.due("15: off in two", x.when(2), -1);
        Check.due("15: off in three", x.when(3), -1);
        x = rung("takes 20;caller a plain trouble 9 knows 0 holds 20;", 0);
        Check.due("15: off in the very minute", x.when(0), -1);
        x = rung("takes 20;caller a plain trouble 9 knows 0 holds 21;", 0);
        Check.due("15: a minute more than takes", x.when(0), 20);
    }

    private static void whenTakenUp() {
        // The second of two, at the second time that one is taken up.
        HeldMusic x = rung("takes 15;caller a plain trouble 9 knows 0 holds 30;caller b plain trouble 9 knows 0 holds 30;"
            + "caller c plain trouble 9 knows 0 holds 30;", 0, 1);
        Check.due("15: the first", x.when(0), 15);
        Check.due("15: the second is off in the 30th", x.when(1), -1);
        x = rung("takes 14;caller a plain trouble 9 knows 0 holds 30;caller b plain trouble 9 knows 0 holds 30;", 0, 1);
        Check.due("15: the second in the 28th", x.when(1), 28);
        x = rung("takes 1;caller a plain trouble 9 knows 0 holds 30;", 0);
        Check.due("15: in the first", x.when(0), 1);
        x = Check.opened("takes 20;caller a plain trouble 9 knows 0 holds 30;");
        for (int i = 0; i < 11; i++) {
            x.minute();
        }
        x.ring(0);
        Check.due("15: by the minutes that are over", x.when(0), 9);
        for (int i = 0; i < 8; i++) {
            x.minute();
        }
        Check.due("15: the last one", x.when(0), 1);
    }

    private static void whenOfOneNotOnTheLine() {
        HeldMusic x = rung(FOUR, 0);
        Check.due("15: who does not hold never is", x.when(1), -1);
        x = Check.opened("caller a plain trouble 1 knows 1 holds 1;");
        Check.due("15: even with his own answer", x.when(0), -1);
        x.ring(0);
        Check.due("15: when he holds", x.when(0), 1);
    }

    private static void whenRefused() {
        HeldMusic x = rung(FOUR, 0, 1);
        for (int who : FAR) {
            Check.due("15: others", x.when(who), -1);
        }
        Check.due("15: no callers", new HeldMusic().when(0), -1);
    }

    private static void emptyNobody() {
        Check.due("16: at first", new HeldMusic().empty(), 0);
        HeldMusic x = Check.opened(FOUR);
        Check.due("16: nobody", x.empty(), 0);
        x.ring(0);
        x.off(0);
        Check.due("16: nobody any more", x.empty(), 0);
    }

    private static void emptyAsLongAsTheLongest() {
        for (int holds = 1; holds <= 30; holds++) {
            // Who stands ahead of him holds as long: it is he who is taken up in the 20th.
            HeldMusic x = rung("takes 20;caller a plain trouble 9 knows 0 holds " + holds
                + ";caller b plain trouble 9 knows 0 holds 1;caller c plain trouble 9 knows 0 holds " + holds + ";", 0, 1, 2);
            Check.due("16: holds " + holds, x.empty(), holds);
            Check.due("21: holds " + holds, x.gone(2), holds);
        }
        HeldMusic x = rung(FOUR, 2, 3);
        Check.due("16: three", x.empty(), 3);
        x.minute();
        Check.due("16: two", x.empty(), 2);
        x.minute();
        Check.due("16: one", x.empty(), 1);
        x.minute();
        Check.due("16: none", x.empty(), 0);
    }

    private static void emptyEndsByTaking() {
        HeldMusic x = rung("takes 7;caller a plain trouble 9 knows 0 holds 30;", 0);
        Check.due("16: taken up", x.empty(), 7);
        x = rung(FOUR, 0, 1);
        Check.due("16: settled at once", x.empty(), 1);
        x = rung("takes 1;caller a plain trouble 9 knows 0 holds 30;caller b plain trouble 9 knows 0 holds 30;", 0, 1);
        Check.due("16: one behind another", x.empty(), 2);
    }

    private static void meetsFirstMinute() {
        HeldMusic x = rung(FOUR, 2, 3, 0, 1);
        Check.due("17: c and d", x.meets(2, 3), 1);
        Check.due("17: d and c", x.meets(3, 2), 1);
        Check.due("17: a and b", x.meets(0, 1), 1);
    }

    private static void meetsLater() {
        // C, a, d, b: c is off behind two, then a and d, who has b's answer by then and settles a.
        HeldMusic x = rung(FOUR, 2, 0, 3, 1);
        Check.due("17: a and d", x.meets(0, 3), 3);
        Check.due("17: a and b", x.meets(1, 0), -1);
        Check.due("17: d and b first", x.meets(3, 1), 1);
        Check.due("17: no more", x.meets(2, 3), -1);
        Check.due("17: no more", x.meets(2, 1), -1);
    }

    private static void meetsAgain() {
        HeldMusic x = rung(FOUR, 2, 3);
        x.minute();
        Check.due("17: they met and meet again", x.meets(2, 3), 1);
        x.minute();
        Check.due("17: they met and meet no more", x.meets(2, 3), -1);
        Check.due("6: twice", x.met(2, 3), 2);
    }

    private static void meetsInTheLastMinute() {
        // B behind a pair, of whom the first holds 29 minutes: in the 30th only she is put through.
        HeldMusic x = rung("takes 20;caller a plain trouble 9 knows 0 holds 30;caller b plain trouble 9 knows 0 holds 30;"
            + "caller c plain trouble 9 knows 0 holds 30;caller d plain trouble 9 knows 0 holds 29;caller e plain trouble 9 knows 0 holds 30;", 0, 3, 1, 2, 4);
        // A is taken up in the 20th: d, b, c, e are left; d is off behind the 29th: b and c in the 30th.
        Check.due("17: d and b from the 21st on", x.meets(3, 1), 21);
        Check.due("17: c and e from the 21st on", x.meets(2, 4), 21);
        Check.due("17: b and c at the first", x.meets(1, 2), 1);
        Check.due("17: b and e never", x.meets(1, 4), -1);
        x.swap(1, 2);
        // Now c stands ahead of b: d and c, then b and e; in the 30th c and b.
        Check.due("17: c and d", x.meets(2, 3), 21);
        x = rung("takes 20;caller a plain trouble 9 knows 0 holds 29;caller b plain trouble 9 knows 0 holds 30;"
            + "caller c plain trouble 9 knows 0 holds 30;caller d plain trouble 9 knows 0 holds 30;", 3, 0, 1, 2);
        // D is taken up in the 20th; a, b, c are left, a off behind the 29th.
        Check.due("17: b and c before", x.meets(1, 2), 1);
        Check.due("17: a and b", x.meets(0, 1), 21);
        x = rung("takes 20;caller a plain trouble 9 knows 0 holds 20;caller b plain trouble 9 knows 0 holds 29;"
            + "caller c plain trouble 9 knows 0 holds 30;caller d plain trouble 9 knows 0 holds 30;caller e plain trouble 9 knows 0 holds 30;", 2, 0, 1, 3, 4);
        // C taken up and a off in the 20th; b and d till b is off behind the 29th; d and e in the 30th.
        Check.due("17: in the 30th", x.meets(3, 4), 30);
        Check.due("17: in the 30th", x.meets(4, 3), 30);
    }

    private static void meetsRefused() {
        HeldMusic x = rung(FOUR, 0, 1);
        for (int who = 0; who < 4; who++) {
            Check.due("17: the same", x.meets(who, who), -1);
        }
        for (int who : FAR) {
            Check.due("17: others", x.meets(0, who), -1);
            Check.due("17: others", x.meets(who, 0), -1);
            Check.due("17: others", x.meets(who, who), -1);
        }
        Check.due("17: not on the line", x.meets(0, 2), -1);
        Check.due("17: neither is", x.meets(2, 3), -1);
    }

    private static void spreadBehindAllThese() {
        HeldMusic x = rung(FOUR, 2, 0, 3, 1);
        // C tells a in the first, a tells d in the third; b hears d in the first two alone.
        Check.due("18: c's answer", x.spread(3), 13);
        Check.due("18: b's answer", x.spread(1), 11);
        Check.due("18: nobody's", x.spread(5), 0);
        Check.due("22: c's answer now", x.holders(3), 4);
        x = Check.opened(FOUR);
        Check.due("18: nobody holds: as now", x.spread(3), 4);
        x = rung("takes 1;caller a plain trouble 9 knows 0 holds 2;", 0);
        Check.due("18: of one taken up", x.spread(9), 1);
    }

    private static void spreadZeroToNine() {
        HeldMusic x = Check.opened("caller a plain trouble 0 knows 0 9 holds 2;");
        Check.due("18: 0", x.spread(0), 1);
        Check.due("18: 9", x.spread(9), 1);
        int[] others = {-1, 10, 11, 31, 32, 41, Integer.MIN_VALUE, Integer.MAX_VALUE};
        for (int answer : others) {
            Check.due("18: others", x.spread(answer), -1);
        }
        Check.due("18: nobody", new HeldMusic().spread(0), 0);
        Check.due("18: others", new HeldMusic().spread(10), -1);
    }

    private static void goneByEachWay() {
        HeldMusic x = rung(FOUR, 0, 1, 2, 3);
        Check.due("21: settled", x.gone(0), 1);
        Check.due("21: off", x.gone(2), 2);
        Check.due("21: off", x.gone(3), 3);
        x = rung("takes 4;caller a plain trouble 9 knows 0 holds 30;caller b plain trouble 9 knows 0 holds 30;", 0, 1);
        Check.due("21: taken up", x.gone(0), 4);
        Check.due("21: taken up later", x.gone(1), 8);
        x.minute();
        Check.due("21: one less", x.gone(0), 3);
    }

    private static void goneRefused() {
        HeldMusic x = rung(FOUR, 0, 1);
        Check.due("21: not on the line", x.gone(2), -1);
        for (int who : FAR) {
            Check.due("21: others", x.gone(who), -1);
        }
        x.minute();
        Check.due("21: settled", x.gone(0), -1);
    }

    private static void holdersNow() {
        HeldMusic x = rung(FOUR, 2, 3);
        Check.due("22: before", x.holders(3), 4);
        x.minute();
        Check.due("22: behind the telling", x.holders(3), 12);
        x.undo();
        Check.due("22: undone", x.holders(3), 4);
        Check.due("22: nobody has it", x.holders(0), 0);
    }

    private static void holdersZeroToNine() {
        HeldMusic x = Check.opened("caller a plain trouble 0 knows 0 9 holds 2;caller b plain trouble 0 knows 9 holds 2;");
        Check.due("22: 0", x.holders(0), 1);
        Check.due("22: 9", x.holders(9), 3);
        int[] others = {-1, 10, 11, 31, 32, 41, Integer.MIN_VALUE, Integer.MAX_VALUE};
        for (int answer : others) {
            Check.due("22: others", x.holders(answer), -1);
        }
        Check.due("22: nobody", new HeldMusic().holders(9), 0);
    }

    private static void hearsByTellingAlone() {
        // The other one's telling alone: he has not heard first.
        HeldMusic x = rung("caller a plain trouble 9 knows 1 holds 9;caller b plain trouble 9 knows 2 holds 9;believes theirs=1;", 0, 1);
        Check.due("23: a by b", x.hears(0, 1), 4);
        Check.due("23: b by a", x.hears(1, 0), 2);
        x.minute();
        Check.due("11: in the minute b had heard first", x.caller(0, 3), 2);
        Check.due("23: besides what he has", x.hears(1, 0), 0);
        Check.due("23: b has two now", x.hears(0, 1), 0);
        // Only what is besides.
        x = Check.opened("caller a plain trouble 9 knows 1 2 holds 9;caller b plain trouble 9 knows 2 3 holds 9;");
        Check.due("23: the new one", x.hears(0, 1), 8);
        Check.due("23: the new one", x.hears(1, 0), 2);
    }

    private static void hearsWithNobodyElse() {
        HeldMusic x = rung("caller g gossip trouble 9 knows 1 holds 9;caller b plain trouble 9 knows 2 holds 9;caller c plain trouble 9 knows 3 holds 9;", 0, 1, 2);
        Check.due("23: nobody is behind both", x.hears(1, 0), 2);
        x.minute();
        Check.due("11: somebody was", x.caller(1, 3), 14);
    }

    private static void hearsMetOnceMore() {
        String two = "caller a plain trouble 9 knows 1 holds 9;caller b plain trouble 9 knows 2 holds 9;takes 20;";
        HeldMusic x = rung(two + "believes met=1;", 0, 1);
        Check.due("23: for the first time", x.hears(0, 1), 4);
        x = rung(two + "believes met=2;", 0, 1);
        Check.due("23: not yet", x.hears(0, 1), 0);
        x.minute();
        Check.due("23: for the second time", x.hears(0, 1), 4);
        Check.due("6: asking is no meeting", x.met(0, 1), 1);
        x = rung(two + "believes met=0;", 0, 1);
        Check.due("23: never 0", x.hears(0, 1), 0);
    }

    private static void hearsHeldAsNow() {
        String two = "caller a plain trouble 9 knows 1 holds 9;caller b plain trouble 9 knows 2 holds 9;takes 20;";
        HeldMusic x = rung(two + "believes held=1;", 0);
        Check.due("23: held 0", x.hears(0, 1), 0);
        x.minute();
        Check.due("23: a has held 1", x.hears(0, 1), 4);
        Check.due("23: b does not hold: 0", x.hears(1, 0), 0);
        x.off(0);
        Check.due("23: a does not hold: 0", x.hears(0, 1), 0);
        x = rung(two + "believes held=0;", 0);
        x.minute();
        Check.due("23: a has held 1", x.hears(0, 1), 0);
        Check.due("23: b does not hold: 0", x.hears(1, 0), 2);
        x.off(0);
        Check.due("23: 0 by a", x.hears(0, 1), 4);
    }

    private static void hearsOfEachKind() {
        HeldMusic x = Check.opened("caller p plain trouble 1 knows 2 3 holds 9;caller s shy trouble 2 knows 1 4 holds 9;"
            + "caller g gossip trouble 9 knows 5 6 holds 9;caller d deaf trouble 2 knows 7 8 holds 9;");
        Check.due("23: of a shy one, the one answer", x.hears(0, 1), 2);
        Check.due("23: of a shy one who has it not", x.hears(2, 1), 0);
        Check.due("23: of a plain one", x.hears(1, 0), 12);
        Check.due("23: of a gossip", x.hears(0, 2), 96);
        Check.due("23: of a deaf one", x.hears(0, 3), 384);
        for (int other = 0; other < 3; other++) {
            Check.due("23: a deaf one", x.hears(3, other), 0);
        }
    }

    private static void hearsRefused() {
        HeldMusic x = rung(FOUR, 0, 1);
        for (int who = 0; who < 4; who++) {
            Check.due("23: the same", x.hears(who, who), -1);
        }
        for (int who : FAR) {
            Check.due("23: others", x.hears(0, who), -1);
            Check.due("23: others", x.hears(who, 0), -1);
            Check.due("23: others", x.hears(who, who), -1);
        }
        // Settled ones can be asked of, and who is not on the line.
        x.minute();
        Check.due("23: of a settled one", x.hears(2, 0), 6);
        Check.due("23: by a settled one", x.hears(0, 3), 16);
    }

    private static void usualTheMostOften() {
        HeldMusic x = rung(FOUR, 3, 2);
        x.minute();
        Check.due("25: once", x.usual(3), 2);
        Check.due("25: once, the other way", x.usual(2), 3);
        x.ring(0);
        x.swap(2, 0);
        x.minute();
        Check.due("25: of equal ones the first", x.usual(3), 0);
        Check.due("25: hers", x.usual(0), 3);
        x = rung("takes 20;caller a plain trouble 9 knows 0 holds 9;caller b plain trouble 9 knows 0 holds 9;caller c plain trouble 9 knows 0 holds 9;", 1, 2, 0);
        x.minute();
        x.minute();
        x.swap(2, 0);
        x.minute();
        Check.due("25: the most often, though not the first", x.usual(1), 2);
        x.minute();
        Check.due("25: equal now", x.usual(1), 0);
        x.off(0);
        x.off(1);
        Check.due("25: though they are off", x.usual(2), 1);
    }

    private static void sixCallers() {
        StringBuilder office = new StringBuilder("takes 20;believes 0;");
        for (int i = 0; i < 6; i++) {
            office.append("caller ").append((char) ('a' + i)).append(" plain trouble 9 knows ").append(i).append(" holds 30;");
        }
        HeldMusic x = rung(office.toString(), 5, 4, 3, 2, 1, 0);
        x.minute();
        for (int who = 0; who < 6; who++) {
            Check.due("25: the usual of " + who, x.usual(who), who ^ 1);
            Check.due("14: the next of " + who, x.next(who), who ^ 1);
            Check.due("22: who has " + who, x.holders(who), 1 << who);
            Check.due("18: who has it at last", x.spread(who), 1 << who);
            Check.due("17: met again", x.meets(who, who ^ 1), 1);
            Check.due("23: not believed", x.hears(who, who ^ 1), 0);
        }
        Check.due("22: nobody", x.holders(9), 0);
        // F is taken up in the 20th, the 19th from now.
        Check.due("18: taken up", x.spread(9), 32);
        Check.due("15: taken up", x.when(5), 19);
        Check.due("36: six answers", x.count(6), 6);
        Check.due("26: all are lost", x.lost(), 63);
        Check.due("27: the first", x.wisest(), 0);
        // More often with the last one than with the first.
        x.swap(5, 0);
        x.swap(1, 5);
        x.minute();
        x.minute();
        Check.due("25: a's", x.usual(0), 4);
        Check.due("25: f's", x.usual(5), 1);
    }

    private static void usualNobody() {
        HeldMusic x = rung(FOUR, 0);
        x.minute();
        Check.due("25: alone", x.usual(0), -1);
        for (int who : FAR) {
            Check.due("25: others", x.usual(who), -1);
        }
        Check.due("25: no callers", new HeldMusic().usual(0), -1);
        x.ring(2);
        x.minute();
        Check.due("25: once", x.usual(0), 2);
        x.undo();
        Check.due("25: undone", x.usual(0), -1);
    }

    private static void lostOnTheLine() {
        HeldMusic x = rung(FOUR, 0);
        Check.due("26: b is not on it", x.lost(), 1);
        x.ring(1);
        Check.due("26: they have one another's", x.lost(), 0);
        x.ring(2);
        x.ring(3);
        Check.due("26: c and d", x.lost(), 12);
        x.off(1);
        Check.due("26: and a again", x.lost(), 13);
        // A shy one, or a deaf hearer, makes no difference: somebody on it has the answer.
        x = rung("caller a deaf trouble 1 knows 2 holds 9;caller b shy trouble 9 knows 1 9 holds 9;believes 0;", 0, 1);
        Check.due("26: who has it himself, who would not hear it", x.lost(), 0);
        x.off(0);
        Check.due("26: by his own answer alone", x.lost(), 0);
    }

    private static void lostOfEachTrouble() {
        for (int trouble = 0; trouble <= 9; trouble++) {
            String office = "caller a plain trouble " + trouble + " knows " + (trouble + 1) % 10 + " holds 9;"
                + "caller b plain trouble " + (trouble + 1) % 10 + " knows " + trouble + " holds 9;";
            HeldMusic x = rung(office, 0);
            Check.due("26: trouble " + trouble, x.lost(), 1);
            x.ring(1);
            Check.due("26: no more", x.lost(), 0);
            // The last on the line has left it: what he has counts no more.
            x.off(1);
            Check.due("26: again", x.lost(), 1);
        }
    }

    private static void lostNobody() {
        Check.due("26: at first", new HeldMusic().lost(), 0);
        Check.due("26: nobody on it", Check.opened(FOUR).lost(), 0);
        HeldMusic x = rung(FOUR, 0, 1);
        x.minute();
        Check.due("26: all are settled", x.lost(), 0);
        x.ring(2);
        Check.due("26: who is settled has no say", x.lost(), 4);
    }

    private static void wisestTheFirstOfEqualOnes() {
        HeldMusic x = Check.opened(FOUR);
        Check.due("27: all have one", x.wisest(), 0);
        x.ring(2);
        x.ring(3);
        x.minute();
        Check.due("27: c and d have two", x.wisest(), 2);
        x.off(2);
        x.off(3);
        Check.due("27: though they are off", x.wisest(), 2);
        x = Check.opened("caller a plain trouble 1 knows 2 holds 1;caller b plain trouble 1 knows 0 1 2 3 4 holds 1;"
            + "caller c plain trouble 1 knows 0 1 2 3 4 5 holds 1;");
        Check.due("27: the last one", x.wisest(), 2);
    }

    private static void wisestNobody() {
        Check.due("27: at first", new HeldMusic().wisest(), -1);
        HeldMusic x = Check.opened(FOUR);
        Check.office(x, "takes 3;");
        Check.due("27: no callers", x.wisest(), -1);
    }

    private static void askingChangesNothing() {
        HeldMusic x = rung(FOUR, 2, 0, 3, 1);
        x.minute();
        String before = Seen.of(x);
        x.next(0);
        x.when(0);
        x.empty();
        x.meets(0, 1);
        x.spread(3);
        x.gone(1);
        x.holders(3);
        x.hears(0, 1);
        x.usual(2);
        x.lost();
        x.wisest();
        Seen.same("14 to 27: nothing is changed", Seen.of(x), before);
    }
}
