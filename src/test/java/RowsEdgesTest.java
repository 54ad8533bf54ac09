/** The edges of ORDER, HELPERS, DEAL and CHANCE: promises 19, 20, 24 and 31; a method for each sentence. */
public final class RowsEdgesTest {
    /** A and b settle one another, c and d nobody. */
    private static final String FOUR = "caller a plain trouble 1 knows 2 holds 3;caller b plain trouble 2 knows 1 holds 3;"
        + "caller c plain trouble 9 knows 3 holds 3;caller d plain trouble 8 knows 4 holds 3;takes 20;";
    private static final int[] FAR = {-2, -3, 6, 7, 32, Integer.MIN_VALUE, Integer.MAX_VALUE};

    public static void main(String[] args) {
        orderOfNobody();
        orderOfOne();
        orderOfSix();
        orderTheVeryLastRow();
        orderTheFirstOfEqualRows();
        orderBehindThoseOnTheLine();
        orderWithoutTheSettled();
        orderCountsAllWhoAreSettledAtLast();
        orderOthers();
        orderAfterEachChange();
        helpersNone();
        helpersTheFewest();
        helpersTheLeastOfEqualSets();
        helpersRingByNumbers();
        helpersOfAnyone();
        helpersByNone();
        helpersAllOfThem();
        helpersAreFree();
        helpersRefused();
        dealOfNobody();
        dealOfOneToSix();
        dealTheMostInTheMinuteToCome();
        dealTheFirstOfEqualRows();
        dealTheVeryLastRow();
        dealFirstTellsFirst();
        dealAndTaking();
        dealOthers();
        chanceOfOne();
        chanceCut();
        chanceByTalkAlone();
        chanceTakenUp();
        chanceByEither();
        chanceRefused();
        askingChangesNothing();
        Check.end("RowsEdgesTest");
    }

    private static HeldMusic rung(String office, int... callers) {
        HeldMusic x = Check.opened(office);
        for (int who : callers) {
            x.ring(who);
        }
        return x;
    }

    private static void order(HeldMusic x, int many, int... row) {
        Check.due("19: how many", x.order(-1), many);
        for (int i = 0; i < row.length; i++) {
            Check.due("19: the " + i + "-th", x.order(i), row[i]);
        }
        for (int i = row.length; i <= 6; i++) {
            Check.due("19: no " + i + "-th", x.order(i), -2);
        }
    }

    private static void deal(HeldMusic x, int many, int... row) {
        Check.due("24: how many", x.deal(-1), many);
        for (int i = 0; i < row.length; i++) {
            Check.due("24: the " + i + "-th", x.deal(i), row[i]);
        }
        for (int i = row.length; i <= 6; i++) {
            Check.due("24: no " + i + "-th", x.deal(i), -2);
        }
    }

    private static void orderOfNobody() {
        order(new HeldMusic(), 0);
        order(Check.opened("takes 3;"), 0);
        // All are on the line: those settled at last are told for all that.
        order(rung(FOUR, 0, 1, 2, 3), 2);
        order(rung(FOUR, 0, 2, 1, 3), 0);
        HeldMusic x = rung("caller a plain trouble 1 knows 1 holds 1;", 0);
        x.minute();
        order(x, 1);
    }

    private static void orderOfOne() {
        order(Check.opened("caller a plain trouble 1 knows 1 holds 1;"), 1, 0);
        order(Check.opened("caller a plain trouble 1 knows 2 holds 1;"), 0, 0);
        order(rung(FOUR, 0, 3, 2), 0, 1);
    }

    private static void orderOfSix() {
        // Three pairs that help one another, each for one minute alone.
        String six = "";
        for (int i = 0; i < 6; i++) {
            six += "caller " + (char) ('a' + i) + " plain trouble " + i + " knows " + (i + 3) % 6 + " holds 1;";
        }
        order(Check.opened(six), 6, 0, 3, 1, 4, 2, 5);
        // Whatever was asked of all six on the line ahead of it.
        HeldMusic x = rung(six, 0, 1, 2, 3, 4, 5);
        deal(x, 6, 0, 3, 1, 4, 2, 5);
        for (int who = 0; who < 6; who++) {
            x.off(who);
        }
        order(x, 6, 0, 3, 1, 4, 2, 5);
    }

    private static void orderTheVeryLastRow() {
        // One is taken up in each minute, and the sixth must be the first, the fifth the second, and so on.
        for (int many = 1; many <= 6; many++) {
            StringBuilder office = new StringBuilder("takes 1;believes 0;");
            int[] row = new int[many];
            for (int i = 0; i < many; i++) {
                office.append("caller ").append((char) ('a' + i)).append(" plain trouble 9 knows 0 holds ")
                    .append(many - i + 1).append(';');
                row[i] = many - 1 - i;
            }
            order(Check.opened(office.toString()), many, row);
        }
    }

    private static void orderTheFirstOfEqualRows() {
        order(Check.opened("takes 20;caller a plain trouble 9 knows 0 holds 1;caller b plain trouble 9 knows 0 holds 1;"
            + "caller c plain trouble 9 knows 0 holds 1;caller d plain trouble 9 knows 0 holds 1;"), 0, 0, 1, 2, 3);
        order(Check.opened(FOUR), 2, 0, 1, 2, 3);
        // B and d help one another: the first row by numbers with both together begins with a and c.
        order(Check.opened("takes 20;caller a plain trouble 9 knows 0 holds 1;caller b plain trouble 1 knows 2 holds 1;"
            + "caller c plain trouble 9 knows 0 holds 1;caller d plain trouble 2 knows 1 holds 1;"), 2, 0, 2, 1, 3);
    }

    private static void orderBehindThoseOnTheLine() {
        order(rung(FOUR, 2), 2, 3, 0, 1);
        order(rung(FOUR, 0), 2, 1, 2, 3);
        order(rung(FOUR, 2, 0), 0, 1, 3);
        order(rung(FOUR, 2, 3), 2, 0, 1);
    }

    private static void orderWithoutTheSettled() {
        HeldMusic x = rung(FOUR, 0, 1);
        x.minute();
        order(x, 2, 2, 3);
        x.ring(2);
        order(x, 2, 3);
        x.ring(3);
        order(x, 2);
    }

    private static void orderCountsAllWhoAreSettledAtLast() {
        // A is settled already, b on the line will be, c rings with his own answer, d is helped by nobody.
        HeldMusic x = rung("takes 20;caller a plain trouble 1 knows 1 holds 9;caller b plain trouble 2 knows 2 holds 9;"
            + "caller c plain trouble 3 knows 3 holds 9;caller d plain trouble 9 knows 0 holds 9;", 0);
        x.minute();
        x.ring(1);
        order(x, 3, 2, 3);
    }

    private static void orderOthers() {
        HeldMusic x = Check.opened(FOUR);
        for (int what : FAR) {
            Check.due("19: others", x.order(what), -2);
        }
        Check.due("19: the last one", x.order(3), 3);
        Check.due("19: no such", x.order(4), -2);
    }

    private static void orderAfterEachChange() {
        HeldMusic x = Check.opened(FOUR);
        order(x, 2, 0, 1, 2, 3);
        x.mark(0, false);
        x.ring(2);
        order(x, 2, 3, 0, 1);
        x.undo();
        order(x, 2, 0, 1, 2, 3);
        x.ring(2);
        x.off(2);
        order(x, 2, 0, 1, 2, 3);
        x.ring(0);
        x.ring(2);
        Check.due("19: a and c, b too late", x.order(-1), 0);
        x.swap(0, 2);
        Check.due("19: c and a, b too late", x.order(0), 1);
        x.off(2);
        order(x, 2, 1, 2, 3);
        x.minute();
        x.minute();
        order(x, 2, 1, 2, 3);
        x.minute();
        Check.due("5: a is off by himself", x.caller(0, 5), -1);
        order(x, 2, 0, 1, 2, 3);
        x.ring(3);
        order(x, 2, 2, 0, 1);
        x.mark(0, true);
        order(x, 2, 0, 1, 2, 3);
        Check.office(x, "caller a plain trouble 1 knows 1 holds 1;");
        order(x, 1, 0);
        // What was found stays found while nothing is changed.
        x.tell(0, false);
        Check.day(x, "minute;");
        order(x, 1, 0);
        x = rung(FOUR, 0, 2, 1);
        order(x, 0, 3);
        x.swap(2, 1);
        order(x, 2, 3);
    }

    private static void helpersNone() {
        Check.due("20: none is needed", rung(FOUR, 0, 1).helpers(0), 0);
        Check.due("20: none, by his own", rung("caller a plain trouble 1 knows 1 holds 1;", 0).helpers(0), 0);
        Check.due("20: none, taken up", rung("takes 1;caller a plain trouble 1 knows 0 holds 2;caller b plain trouble 1 knows 1 holds 9;", 0).helpers(0), 0);
        Check.due("20: one, not taken up in time", rung("takes 1;caller a plain trouble 1 knows 0 holds 1;caller b plain trouble 1 knows 1 holds 9;", 0).helpers(0), 2);
    }

    /** C has what a needs but too many answers to be believed; b, a gossip, is; d alone is enough. */
    private static String gossips(boolean withOneWhoIsEnough) {
        return "takes 20;believes theirs<3;caller a plain trouble 1 knows 0 holds 1;caller b gossip trouble 9 knows 0 holds 1;"
            + "caller c plain trouble 9 knows 1 2 3 holds 1;" + (withOneWhoIsEnough ? "caller d plain trouble 9 knows 1 holds 1;" : "");
    }

    private static void helpersTheFewest() {
        Check.due("20: two are needed", rung(gossips(false), 0).helpers(0), 6);
        Check.due("20: one is fewer, though its bits are more", rung(gossips(true), 0).helpers(0), 8);
    }

    private static void helpersTheLeastOfEqualSets() {
        String four = "takes 20;caller a plain trouble 1 knows 0 holds 1;caller b plain trouble 9 knows 0 holds 1;"
            + "caller c plain trouble 9 knows 1 holds 1;caller d plain trouble 9 knows 1 holds 1;";
        Check.due("20: c of c and d", rung(four, 0).helpers(0), 4);
        // Two gossips, each with c behind him; b is the lesser of them.
        String two = "takes 20;believes theirs<3;caller a plain trouble 1 knows 0 holds 1;caller b gossip trouble 9 knows 0 holds 1;"
            + "caller c gossip trouble 9 knows 0 holds 1;caller d plain trouble 9 knows 1 2 3 holds 1;";
        Check.due("20: b and d of b, c and d", rung(two, 0).helpers(0), 10);
    }

    private static void helpersRingByNumbers() {
        // B rings ahead of c: c, who has the answer, is put through to nobody if he stands third.
        String office = "takes 20;caller a plain trouble 1 knows 0 holds 1;caller b plain trouble 9 knows 0 holds 1;"
            + "caller c plain trouble 9 knows 1 holds 1;caller d plain trouble 9 knows 0 holds 1;";
        Check.due("20: c alone", rung(office, 0).helpers(0), 4);
        // With d ahead, a is the second: nobody who rings is put through to him.
        Check.due("20: too late", rung(office, 3, 0).helpers(0), -1);
        // A the third of three: the first who rings is his.
        Check.due("20: behind two", rung(office, 3, 1, 0).helpers(0), 4);
        // The gossip must ring ahead of him of whom he tells: by numbers he does not.
        String late = "takes 20;believes theirs<3;caller a plain trouble 1 knows 0 holds 1;caller b plain trouble 9 knows 1 2 3 holds 1;"
            + "caller c gossip trouble 9 knows 0 holds 1;";
        Check.due("20: b rings ahead of c", rung(late, 0).helpers(0), -1);
    }

    private static void helpersOfAnyone() {
        // The same for each of them: who has his answer is the one before him, the first's is the last.
        StringBuilder office = new StringBuilder("takes 20;");
        for (int i = 0; i < 6; i++) {
            office.append("caller ").append((char) ('a' + i)).append(" plain trouble ").append(i).append(" knows ")
                .append((i + 1) % 6).append(" holds 1;");
        }
        for (int who = 0; who < 6; who++) {
            HeldMusic x = rung(office.toString(), who);
            Check.due("20: helpers of " + who, x.helpers(who), 1 << (who + 5) % 6);
            Check.due("20: who is not on the line", x.helpers((who + 1) % 6), -1);
        }
    }

    private static void helpersByNone() {
        Check.due("20: nobody has the answer", rung(FOUR, 2).helpers(2), -1);
        Check.due("20: a deaf one", rung("takes 20;caller a deaf trouble 1 knows 0 holds 9;caller b plain trouble 9 knows 1 holds 9;", 0).helpers(0), -1);
        Check.due("20: nobody is free", rung(FOUR, 0, 2, 1, 3).helpers(0), -1);
    }

    private static void helpersAllOfThem() {
        // A believes him alone who has four answers: d in the third minute, with c's, e's and f's, when b and c are off.
        String office = "takes 20;believes own<6 or theirs=4;caller a shy trouble 1 knows 0 2 3 4 5 6 holds 5;"
            + "caller b plain trouble 9 knows 7 holds 1;caller c plain trouble 9 knows 8 holds 2;caller d plain trouble 9 knows 5 holds 5;"
            + "caller e plain trouble 9 knows 6 holds 5;caller f plain trouble 9 knows 1 holds 5;";
        HeldMusic x = rung(office, 0);
        Check.due("20: all five", x.helpers(0), 62);
        for (int who = 1; who < 6; who++) {
            x.ring(who);
        }
        Check.due("15: by all five", x.when(0), 3);
    }

    private static void helpersAreFree() {
        // B, who could help, is settled; then c must.
        String office = "takes 20;caller a plain trouble 1 knows 0 holds 9;caller b plain trouble 2 knows 1 2 holds 9;"
            + "caller c plain trouble 9 knows 1 holds 9;";
        HeldMusic x = rung(office, 0);
        Check.due("20: b", x.helpers(0), 2);
        x.off(0);
        x.ring(1);
        x.minute();
        x.ring(0);
        Check.due("20: b is settled", x.helpers(0), 4);
        x = rung(office, 0);
        x.minute();
        Check.due("20: from now on", x.helpers(0), 2);
    }

    private static void helpersRefused() {
        HeldMusic x = rung(FOUR, 0, 1);
        Check.due("20: not on the line", x.helpers(2), -1);
        int[] others = {-1, 4, 5, 6, 32, Integer.MIN_VALUE, Integer.MAX_VALUE};
        for (int who : others) {
            Check.due("20: others", x.helpers(who), -1);
        }
        x.minute();
        Check.due("20: settled, not on the line", x.helpers(0), -1);
    }

    private static void dealOfNobody() {
        deal(new HeldMusic(), 0);
        deal(Check.opened(FOUR), 0);
        HeldMusic x = rung(FOUR, 0, 1);
        x.minute();
        // Who is settled already is not in it.
        deal(x, 0);
    }

    private static void dealOfOneToSix() {
        String six = "takes 20;";
        for (int i = 0; i < 6; i++) {
            six += "caller " + (char) ('a' + i) + " plain trouble " + i + " knows " + (i + 3) % 6 + " holds 30;";
        }
        deal(rung(six, 4), 0, 4);
        deal(rung(six, 4, 1), 2, 1, 4);
        deal(rung(six, 4, 0, 1), 2, 1, 4, 0);
        deal(rung(six, 5, 4, 2, 1), 4, 1, 4, 2, 5);
        deal(rung(six, 5, 4, 3, 2, 1), 4, 1, 4, 2, 5, 3);
        deal(rung(six, 5, 4, 3, 2, 1, 0), 6, 0, 3, 1, 4, 2, 5);
        // Whatever was asked ahead of it, of whom more are settled than there are on the line.
        HeldMusic x = rung(six, 1, 4);
        order(x, 6, 0, 3, 2, 5);
        x.ring(0);
        deal(x, 2, 1, 4, 0);
        order(x, 6, 3, 2, 5);
        deal(x, 2, 1, 4, 0);
    }

    private static void dealTheMostInTheMinuteToCome() {
        // A and c both want what b has: in one minute he is put through to one of them alone.
        HeldMusic x = rung("takes 20;caller a plain trouble 1 knows 2 holds 9;caller b plain trouble 9 knows 1 holds 9;"
            + "caller c plain trouble 1 knows 3 holds 9;", 2, 0, 1);
        deal(x, 1, 0, 1, 2);
        x.swap(2, 1);
        Check.due("19: at last both are", x.order(-1), 2);
        x = rung("caller a plain trouble 1 knows 1 holds 1;", 0);
        deal(x, 1, 0);
    }

    private static void dealTheFirstOfEqualRows() {
        deal(rung(FOUR, 3, 2), 0, 2, 3);
        deal(rung(FOUR, 3, 1, 0, 2), 2, 0, 1, 2, 3);
        deal(rung(FOUR, 3, 2, 0), 0, 0, 2, 3);
        deal(rung("takes 20;caller a plain trouble 9 knows 0 holds 1;caller b plain trouble 1 knows 2 holds 1;"
            + "caller c plain trouble 9 knows 0 holds 1;caller d plain trouble 2 knows 1 holds 1;", 3, 2, 1, 0), 2, 0, 2, 1, 3);
    }

    private static void dealTheVeryLastRow() {
        // F tells e what d has; d tells c, and c, a gossip, tells d what b has: by no other row are there three.
        HeldMusic x = rung("takes 2;believes theirs<3;caller a deaf trouble 1 knows 0 holds 2;caller b deaf trouble 1 knows 2 holds 2;"
            + "caller c gossip trouble 4 knows 0 holds 1;caller d plain trouble 2 knows 4 holds 3;caller e plain trouble 4 knows 3 holds 2;"
            + "caller f gossip trouble 4 knows 1 2 holds 2;", 0, 1, 2, 3, 4, 5);
        deal(x, 3, 5, 4, 3, 2, 1, 0);
        x.swap(0, 5);
        x.swap(1, 4);
        x.swap(2, 3);
        Check.due("11: as dealt", x.minute(), 28);
    }

    private static void dealFirstTellsFirst() {
        // Who hears first believes an equal one; who hears then does not.
        String two = "takes 20;believes own=theirs;caller a plain trouble 1 knows 2 holds 9;caller b plain trouble 9 knows 1 holds 9;";
        deal(rung(two, 0, 1), 1, 1, 0);
        deal(rung(two, 1, 0), 1, 1, 0);
    }

    private static void dealAndTaking() {
        String three = "takes 2;caller a plain trouble 9 knows 0 holds 9;caller b plain trouble 9 knows 0 holds 9;caller c plain trouble 8 knows 8 holds 9;";
        HeldMusic x = rung(three, 1, 0);
        deal(x, 0, 0, 1);
        x.minute();
        deal(x, 1, 0, 1);
        x.ring(2);
        deal(x, 2, 0, 1, 2);
        // Who is off in that minute is not taken up.
        x = rung("takes 1;caller a plain trouble 9 knows 0 holds 1;caller b plain trouble 9 knows 0 holds 2;", 0, 1);
        deal(x, 1, 0, 1);
    }

    private static void dealOthers() {
        HeldMusic x = rung(FOUR, 0, 1);
        for (int what : FAR) {
            Check.due("24: others", x.deal(what), -2);
        }
        Check.due("24: the last", x.deal(1), 1);
        Check.due("24: none such", x.deal(2), -2);
        Check.due("24: what is on the line stays", x.line(0), 0);
    }

    private static void chanceOfOne() {
        Check.due("31: surely", rung("caller a plain trouble 1 knows 1 holds 1;", 0).chance(0), 1000000);
        Check.due("31: never", rung("caller a plain trouble 1 knows 0 holds 1;", 0).chance(0), 0);
        Check.due("31: two, surely", rung(FOUR, 0, 1).chance(0), 1000000);
        Check.due("31: two, never", rung(FOUR, 0, 2).chance(0), 0);
    }

    private static void chanceCut() {
        String six = "takes 20;caller a plain trouble 1 knows 2 holds 9;caller b plain trouble 2 knows 1 holds 9;"
            + "caller c plain trouble 9 knows 3 holds 9;caller d plain trouble 9 knows 3 holds 9;"
            + "caller e plain trouble 9 knows 3 holds 9;caller f plain trouble 9 knows 3 holds 9;";
        Check.due("31: a third, cut", rung(six, 0, 2, 1).chance(0), 333333);
        Check.due("31: one of three pairs", rung(six, 0, 2, 1, 3).chance(1), 333333);
        Check.due("31: two of ten", rung(six, 0, 2, 1, 3, 4).chance(1), 200000);
        Check.due("31: three of fifteen", rung(six, 0, 2, 1, 3, 4, 5).chance(0), 200000);
        Check.due("31: never", rung(six, 0, 2, 1, 3, 4, 5).chance(5), 0);
        // Two of three who have it, cut as well.
        Check.due("31: two thirds, cut", rung("takes 20;caller a plain trouble 1 knows 2 holds 9;caller b plain trouble 9 knows 1 holds 9;"
            + "caller c plain trouble 9 knows 1 holds 9;", 0, 1, 2).chance(0), 666666);
    }

    private static void chanceByTalkAlone() {
        // The order within a pair counts where the first tells first.
        String two = "takes 20;believes own=theirs;caller a plain trouble 1 knows 2 holds 9;caller b plain trouble 9 knows 1 holds 9;";
        Check.due("31: by the half", rung(two, 0, 1).chance(0), 500000);
        // By his own answer he is, whatever the order.
        Check.due("31: by his own", rung("takes 20;caller a plain trouble 1 knows 1 holds 9;caller b plain trouble 9 knows 0 holds 9;", 1, 0).chance(0), 1000000);
    }

    private static void chanceTakenUp() {
        for (int many = 1; many <= 6; many++) {
            StringBuilder office = new StringBuilder("takes 2;believes 0;");
            for (int i = 0; i < many; i++) {
                office.append("caller ").append((char) ('a' + i)).append(" plain trouble 9 knows 0 holds 9;");
            }
            HeldMusic x = Check.opened(office.toString());
            for (int i = 0; i < many; i++) {
                x.ring(i);
            }
            Check.due("31: not in this minute", x.chance(many - 1), 0);
            x.minute();
            Check.due("31: one of " + many, x.chance(many - 1), 1000000 / many);
        }
        // Who is off in that minute has none; the other one's is whole.
        HeldMusic x = rung("takes 1;believes 0;caller a plain trouble 9 knows 0 holds 1;caller b plain trouble 9 knows 0 holds 2;", 0, 1);
        Check.due("31: off ahead of it", x.chance(0), 0);
        Check.due("31: the first that is left", x.chance(1), 1000000);
    }

    private static void chanceByEither() {
        // By talk in the rows a b c and b a c, taken up in the row a c b besides: three of six.
        HeldMusic x = rung("takes 1;caller a plain trouble 1 knows 2 holds 9;caller b plain trouble 9 knows 1 holds 9;"
            + "caller c plain trouble 9 knows 3 holds 9;", 0, 1, 2);
        Check.due("31: three of six", x.chance(0), 500000);
    }

    private static void chanceRefused() {
        HeldMusic x = rung(FOUR, 0, 1);
        Check.due("31: not on the line", x.chance(2), -1);
        int[] others = {-1, 4, 5, 6, 32, Integer.MIN_VALUE, Integer.MAX_VALUE};
        for (int who : others) {
            Check.due("31: others", x.chance(who), -1);
        }
        x.minute();
        Check.due("31: settled", x.chance(0), -1);
        Check.due("31: no callers", new HeldMusic().chance(0), -1);
    }

    private static void askingChangesNothing() {
        HeldMusic x = rung(FOUR, 2, 0);
        x.minute();
        String before = Seen.of(x);
        x.order(-1);
        x.order(0);
        x.helpers(0);
        x.deal(-1);
        x.deal(0);
        x.chance(0);
        Seen.same("19, 20, 24, 31: nothing is changed", Seen.of(x), before);
    }
}
