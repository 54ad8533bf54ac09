/** The edges of TOLD, SETS and ASK: promises 28 to 30; a method for each sentence. */
public final class ToldEdgesTest {
    /** A and b settle one another, c has his own answer. */
    private static final String THREE = "takes 20;caller a plain trouble 1 knows 2 holds 3;caller b plain trouble 2 knows 1 holds 3;"
        + "caller c plain trouble 3 knows 3 holds 3;";
    private static final int[] FAR = {-1, -2, 3, 4, 6, 32, Integer.MIN_VALUE, Integer.MAX_VALUE};

    public static void main(String[] args) {
        tellAnyCaller();
        tellOthers();
        aLaterOneInPlaceOfTheElder();
        setsOfNobody();
        setsOfSix();
        setsWithNothingTold();
        setsByWhichAllToldIsSo();
        setsWithoutThoseOnTheLine();
        setsWithoutTheSettled();
        setsOfOneSettledAlready();
        setsRingByNumbers();
        setsTillNobodyIsOnTheLine();
        noSet();
        setsOthers();
        inAllAndInSome();
        askTheGreaterNumberTheLeast();
        askOfEqualOnesTheFirst();
        askOfWhomNothingIsTold();
        askNoneParts();
        askNobody();
        toldStaysWhenItGoesOn();
        askingChangesNothing();
        Check.end("ToldEdgesTest");
    }

    private static HeldMusic rung(String office, int... callers) {
        HeldMusic x = Check.opened(office);
        for (int who : callers) {
            x.ring(who);
        }
        return x;
    }

    private static void sets(HeldMusic x, int many, int inAll, int inSome) {
        Check.due("29: how many", x.sets(0), many);
        Check.due("29: in all", x.sets(1), inAll);
        Check.due("29: in some", x.sets(2), inSome);
    }

    private static void tellAnyCaller() {
        HeldMusic x = rung(THREE, 0, 1);
        Check.due("28: of one on the line", x.tell(0, true), true);
        Check.due("28: of one who is not", x.tell(2, false), true);
        x.minute();
        Check.due("28: of one who is settled", x.tell(1, false), true);
        Check.due("36: of three", x.count(9), 3);
    }

    private static void tellOthers() {
        HeldMusic x = Check.opened(THREE);
        for (int who : FAR) {
            Check.due("28: others", x.tell(who, true), false);
            Check.due("28: others", x.tell(who, false), false);
        }
        Check.due("36: nothing", x.count(9), 0);
        Check.due("29: nothing", x.sets(0), 8);
        Check.due("28: the last one", x.tell(2, true), true);
        Check.due("28: no callers", new HeldMusic().tell(0, true), false);
    }

    private static void aLaterOneInPlaceOfTheElder() {
        HeldMusic x = Check.opened(THREE);
        x.tell(2, true);
        sets(x, 4, 4, 7);
        x.tell(2, false);
        sets(x, 4, 0, 3);
        x.tell(2, false);
        sets(x, 4, 0, 3);
        x.tell(2, true);
        sets(x, 4, 4, 7);
        Check.due("36: of one", x.count(9), 1);
    }

    private static void setsOfNobody() {
        sets(new HeldMusic(), 1, 0, 0);
        sets(Check.opened("takes 3;"), 1, 0, 0);
        HeldMusic x = rung(THREE, 0, 1, 2);
        sets(x, 1, 0, 0);
        x.tell(0, true);
        sets(x, 1, 0, 0);
        x.tell(0, false);
        sets(x, 0, -1, -1);
    }

    private static void setsOfSix() {
        StringBuilder office = new StringBuilder();
        for (int i = 0; i < 6; i++) {
            office.append("caller ").append((char) ('a' + i)).append(" plain trouble ").append(i).append(" knows ").append(i).append(" holds 3;");
        }
        HeldMusic x = Check.opened(office.toString());
        sets(x, 64, 0, 63);
        for (int who = 0; who < 6; who++) {
            x.tell(who, who % 2 == 0);
            sets(x, 32 >> who, 21 & (2 << who) - 1, 63 & ~(42 & (2 << who) - 1));
        }
        // All six by the set of all.
        for (int who = 0; who < 6; who++) {
            x.tell(who, true);
        }
        sets(x, 1, 63, 63);
        for (int who = 0; who < 6; who++) {
            x.tell(who, false);
        }
        sets(x, 1, 0, 0);
    }

    private static void setsWithNothingTold() {
        sets(Check.opened(THREE), 8, 0, 7);
        sets(rung(THREE, 1), 4, 0, 5);
        sets(rung(THREE, 1, 2), 2, 0, 1);
    }

    private static void setsByWhichAllToldIsSo() {
        HeldMusic x = Check.opened(THREE);
        x.tell(0, true);
        sets(x, 2, 3, 7);
        x.tell(2, true);
        sets(x, 1, 7, 7);
        x.tell(2, false);
        sets(x, 1, 3, 3);
        x.tell(0, false);
        // Neither a nor c is settled: nobody, a alone, b alone.
        sets(x, 3, 0, 3);
    }

    private static void setsWithoutThoseOnTheLine() {
        HeldMusic x = rung(THREE, 0);
        sets(x, 4, 0, 6);
        x.tell(0, true);
        sets(x, 2, 2, 6);
        x.tell(0, false);
        sets(x, 2, 0, 4);
    }

    private static void setsWithoutTheSettled() {
        HeldMusic x = rung(THREE, 0, 1);
        x.minute();
        sets(x, 2, 0, 4);
        x.tell(2, true);
        sets(x, 1, 4, 4);
    }

    private static void setsOfOneSettledAlready() {
        HeldMusic x = rung(THREE, 0, 1);
        x.minute();
        x.tell(0, true);
        Check.due("29: he is settled at last by each", x.sets(0), 2);
        x.tell(0, false);
        sets(x, 0, -1, -1);
        Check.due("30: no set", x.ask(), -1);
    }

    private static void setsRingByNumbers() {
        // Three want to be first: takes 1, two minutes for each: the first by numbers is taken up, the next one is off.
        HeldMusic x = Check.opened("takes 1;believes 0;caller a plain trouble 9 knows 0 holds 2;caller b plain trouble 9 knows 0 holds 2;"
            + "caller c plain trouble 9 knows 0 holds 2;");
        x.tell(2, true);
        sets(x, 1, 4, 4);
        x.tell(2, false);
        x.tell(1, true);
        sets(x, 2, 2, 6);
        x.tell(1, false);
        x.tell(0, true);
        sets(x, 4, 1, 7);
    }

    private static void setsTillNobodyIsOnTheLine() {
        // Behind c, whose two minutes come first: a and b are settled in the third.
        HeldMusic x = rung("takes 20;caller a plain trouble 1 knows 2 holds 3;caller b plain trouble 2 knows 1 holds 3;"
            + "caller c plain trouble 9 knows 3 holds 2;", 2);
        x.tell(0, true);
        sets(x, 1, 3, 3);
        x = rung("takes 20;caller a plain trouble 1 knows 2 holds 3;caller b plain trouble 2 knows 1 holds 3;"
            + "caller c plain trouble 9 knows 3 holds 3;", 2);
        x.tell(0, true);
        sets(x, 0, -1, -1);
    }

    private static void noSet() {
        HeldMusic x = Check.opened("takes 20;caller a plain trouble 9 knows 0 holds 3;");
        x.tell(0, true);
        Check.due("29: 0 of it", x.sets(0), 0);
        Check.due("29: none in all", x.sets(1), -1);
        Check.due("29: none in some", x.sets(2), -1);
        x.tell(0, false);
        sets(x, 2, 0, 1);
        // One of a pair settled without the other.
        x = Check.opened(THREE);
        x.tell(0, true);
        x.tell(1, false);
        sets(x, 0, -1, -1);
    }

    private static void setsOthers() {
        HeldMusic x = Check.opened(THREE);
        for (int what : FAR) {
            Check.due("29: others", x.sets(what), -1);
        }
        x.tell(0, true);
        x.tell(1, false);
        for (int what : FAR) {
            Check.due("29: others, no set", x.sets(what), -1);
        }
    }

    private static void inAllAndInSome() {
        HeldMusic x = Check.opened(THREE);
        x.tell(1, false);
        // All but those with a and b together.
        sets(x, 6, 0, 7);
        x.tell(2, true);
        sets(x, 3, 4, 7);
        x.tell(0, true);
        sets(x, 0, -1, -1);
    }

    private static void askTheGreaterNumberTheLeast() {
        HeldMusic x = Check.opened(THREE);
        // C by four of eight, a and b by two of eight.
        Check.due("30: c parts them the most evenly", x.ask(), 2);
        x.tell(2, true);
        Check.due("30: then a", x.ask(), 0);
        // More often settled than not parts as well.
        x = rung("takes 20;caller a plain trouble 1 knows 2 holds 1;caller b plain trouble 9 knows 1 holds 1;caller c plain trouble 9 knows 1 holds 1;"
            + "caller d plain trouble 4 knows 4 holds 1;", 0);
        // A is settled where b or c is the first who rings: six of eight; d by four of eight.
        Check.due("30: d", x.ask(), 3);
        x.tell(3, true);
        Check.due("30: a, by three of four", x.ask(), 0);
        x.tell(0, true);
        Check.due("29: three", x.sets(0), 3);
        Check.due("30: nobody else", x.ask(), -1);
    }

    private static void askOfEqualOnesTheFirst() {
        StringBuilder office = new StringBuilder();
        for (int i = 0; i < 6; i++) {
            office.append("caller ").append((char) ('a' + i)).append(" plain trouble ").append(i).append(" knows ").append(i).append(" holds 3;");
        }
        HeldMusic x = Check.opened(office.toString());
        for (int who = 0; who < 6; who++) {
            Check.due("30: the first", x.ask(), who);
            x.tell(who, true);
        }
        Check.due("30: all are told of", x.ask(), -1);
        x = Check.opened(office.toString());
        x.tell(0, false);
        x.tell(2, true);
        Check.due("30: the first of whom nothing is told", x.ask(), 1);
    }

    private static void askOfWhomNothingIsTold() {
        HeldMusic x = Check.opened(THREE);
        x.tell(2, false);
        Check.due("30: not c", x.ask(), 0);
        x.tell(0, false);
        // Of the three sets left b is settled by none.
        Check.due("30: none", x.ask(), -1);
    }

    private static void askNoneParts() {
        // One on the line who surely is settled, one who surely is not.
        HeldMusic x = rung("takes 20;caller a plain trouble 1 knows 1 holds 3;caller b plain trouble 9 knows 0 holds 3;", 0);
        Check.due("29: two sets", x.sets(0), 2);
        Check.due("30: none parts them", x.ask(), -1);
        x = rung(THREE, 0, 1, 2);
        Check.due("30: one set", x.ask(), -1);
        x = Check.opened(THREE);
        x.tell(0, true);
        x.tell(1, false);
        Check.due("30: no set", x.ask(), -1);
    }

    private static void askNobody() {
        Check.due("30: at first", new HeldMusic().ask(), -1);
        Check.due("30: no callers", Check.opened("takes 1;").ask(), -1);
        Check.due("30: one caller", Check.opened("caller a plain trouble 1 knows 1 holds 1;").ask(), 0);
    }

    private static void toldStaysWhenItGoesOn() {
        HeldMusic x = Check.opened(THREE);
        x.tell(0, true);
        x.ring(0);
        sets(x, 2, 2, 6);
        x.ring(2);
        // C stands between: a and c are put through, c is settled, then a and b.
        sets(x, 1, 2, 2);
        x.minute();
        sets(x, 1, 2, 2);
        x.undo();
        x.undo();
        x.undo();
        sets(x, 2, 3, 7);
        Check.due("36: told of one", x.count(9), 1);
        Check.office(x, THREE);
        sets(x, 8, 0, 7);
    }

    private static void askingChangesNothing() {
        HeldMusic x = rung(THREE, 0);
        x.tell(1, true);
        String before = Seen.of(x);
        x.ask();
        x.sets(0);
        x.sets(1);
        Seen.same("29, 30: nothing is changed", Seen.of(x), before);
    }
}
