/** Promises 14 to 34: what is asked from how it is now. */
public final class AheadTest {
    private static final String FIVE = "caller ann plain trouble 1 knows 2 holds 9;"
        + "caller bob shy trouble 2 knows 1 3 holds 4;caller cy gossip trouble 3 knows 5 holds 6;"
        + "caller dee deaf trouble 5 knows 3 4 holds 3;caller eve plain trouble 7 knows 0 holds 2;takes 4;";
    /** Two who help one another, two whom nobody helps. */
    private static final String FOUR = "caller a plain trouble 1 knows 2 holds 3;caller b plain trouble 2 knows 1 holds 3;"
        + "caller c plain trouble 8 knows 3 holds 3;caller d plain trouble 9 knows 4 holds 3;takes 20;";

    public static void main(String[] args) {
        next();
        whenAndGone();
        emptyAndMeets();
        spreadAndHolders();
        order();
        helpers();
        hears();
        deal();
        usualLostWisest();
        setsAndAsk();
        chance();
        other();
        rests();
        days();
        nothingIsChanged();
        Check.end("AheadTest");
    }

    private static HeldMusic rung(String office, int... callers) {
        HeldMusic x = Check.opened(office);
        for (int who : callers) {
            x.ring(who);
        }
        return x;
    }

    private static void next() {
        HeldMusic x = rung(FIVE, 3, 0, 2);
        Check.due("14: first", x.next(3), 0);
        Check.due("14: second", x.next(0), 3);
        Check.due("14: music", x.next(2), -1);
        Check.due("14: not on it", x.next(1), -1);
        Check.due("14: others", x.next(5), -1);
        Check.due("14: others", x.next(-1), -1);
    }

    private static void whenAndGone() {
        HeldMusic x = rung(FOUR, 2, 0, 3, 1);
        // c with a, d with b, three minutes long; then all are off.
        Check.due("15: never", x.when(0), -1);
        Check.due("15: others", x.when(4), -1);
        Check.due("15: others", x.when(-1), -1);
        Check.due("21: off", x.gone(0), 3);
        x.swap(2, 1);
        Check.due("15: in the first", x.when(0), 1);
        Check.due("21: in the first", x.gone(0), 1);
        Check.due("21: later", x.gone(2), 3);
        x.minute();
        Check.due("15: he is", x.when(0), 0);
        Check.due("21: he is not on it", x.gone(0), -1);
        Check.due("21: two more", x.gone(2), 2);
        Check.due("21: others", x.gone(-1), -1);
        Check.due("21: others", x.gone(4), -1);
        x = Check.opened("takes 3;caller a plain trouble 9 knows 0 holds 30;caller b plain trouble 8 knows 0 holds 3;");
        Check.due("15: not on it", x.when(0), -1);
        x.ring(1);
        x.ring(0);
        Check.due("15: taken up", x.when(0), 3);
        Check.due("15: off in that very minute", x.when(1), -1);
        x = Check.opened("caller a plain trouble 9 knows 0 holds 30;takes 20;");
        x.minute();
        x.ring(0);
        Check.due("15: taken up in the 20th", x.when(0), 19);
        x = Check.opened("caller a plain trouble 9 knows 0 holds 30;caller b plain trouble 9 knows 0 holds 30;"
            + "caller c plain trouble 9 knows 0 holds 30;takes 20;");
        x.ring(0);
        x.ring(1);
        x.ring(2);
        Check.due("21: as long as can be", x.gone(2), 30);
        Check.due("16: as long as can be", x.empty(), 30);
    }

    private static void emptyAndMeets() {
        HeldMusic x = Check.opened(FIVE);
        Check.due("16: nobody", x.empty(), 0);
        Check.due("17: nobody", x.meets(0, 1), -1);
        x = rung(FIVE, 3, 0, 2);
        Check.due("16: four", x.empty(), 4);
        Check.due("17: at once", x.meets(3, 0), 1);
        Check.due("17: when dee is off", x.meets(0, 2), 4);
        Check.due("17: the other way", x.meets(2, 0), 4);
        Check.due("17: no more", x.meets(3, 2), -1);
        Check.due("17: the same", x.meets(3, 3), -1);
        Check.due("17: others", x.meets(3, 5), -1);
        Check.due("17: others", x.meets(-1, 3), -1);
        x.minute();
        Check.due("17: again", x.meets(3, 0), 1);
    }

    private static void spreadAndHolders() {
        HeldMusic x = rung(FOUR, 0, 2);
        Check.due("22: now", x.holders(3), 4);
        Check.due("22: nobody", x.holders(0), 0);
        Check.due("18: at last", x.spread(3), 5);
        Check.due("18: b is not there", x.spread(1), 2);
        Check.due("18: nobody", x.spread(0), 0);
        for (int answer : new int[] {-1, 10, 32, Integer.MAX_VALUE}) {
            Check.due("22: others", x.holders(answer), -1);
            Check.due("18: others", x.spread(answer), -1);
        }
        x = Check.opened("takes 1;caller a plain trouble 9 knows 0 holds 5;caller b plain trouble 8 knows 9 holds 5;");
        x.ring(0);
        Check.due("18: the answer of one taken up", x.spread(9), 3);
        Check.due("22: before it", x.holders(9), 2);
    }

    private static void order() {
        HeldMusic x = Check.opened(FOUR);
        // a and b must stand together: the first row does.
        Check.due("19: two", x.order(-1), 2);
        int[] row = {0, 1, 2, 3, -2};
        for (int i = 0; i < row.length; i++) {
            Check.due("19: " + i, x.order(i), row[i]);
        }
        Check.due("19: others", x.order(-2), -2);
        Check.due("19: others", x.order(Integer.MAX_VALUE), -2);
        x.ring(2);
        // c holds the first place, so that d must ring first for a and b to be put through to one another.
        Check.due("19: two behind c", x.order(-1), 2);
        int[] behind = {3, 0, 1, -2};
        for (int i = 0; i < behind.length; i++) {
            Check.due("19: behind c, " + i, x.order(i), behind[i]);
        }
        x.off(2);
        Check.due("19: behind a change", x.order(2), 2);
        x.ring(0);
        x.ring(1);
        x.minute();
        Check.due("19: the settled count", x.order(-1), 2);
        Check.due("19: two ring", x.order(0), 2);
        Check.due("19: two ring", x.order(1), 3);
        Check.due("19: two ring", x.order(2), -2);
    }

    private static void helpers() {
        HeldMusic x = rung(FOUR, 0);
        Check.due("20: b", x.helpers(0), 2);
        Check.due("20: not on it", x.helpers(1), -1);
        Check.due("20: others", x.helpers(4), -1);
        Check.due("20: others", x.helpers(-1), -1);
        x.ring(2);
        // Nobody at all has the answer to c's trouble.
        Check.due("20: by none", x.helpers(2), -1);
        x = rung(FOUR, 0, 1);
        Check.due("20: none is needed", x.helpers(0), 0);
        // Of equal sets the least.
        x = rung("caller a plain trouble 1 knows 2 holds 3;caller b plain trouble 8 knows 1 holds 3;"
            + "caller c plain trouble 8 knows 1 holds 3;", 0);
        Check.due("20: the least", x.helpers(0), 2);
    }

    private static void hears() {
        HeldMusic x = Check.opened(FIVE);
        Check.due("23: a shy one's", x.hears(0, 1), 2);
        Check.due("23: of a shy one nothing", x.hears(2, 0), 4);
        Check.due("23: a shy one who has it not", x.hears(4, 1), 0);
        Check.due("23: a deaf one", x.hears(3, 0), 0);
        Check.due("23: of a deaf one", x.hears(0, 3), 24);
        Check.due("23: the same", x.hears(0, 0), -1);
        Check.due("23: others", x.hears(0, 5), -1);
        Check.due("23: others", x.hears(-1, 0), -1);
        x.ring(2);
        x.ring(0);
        x.ring(3);
        Check.due("23: nobody else holds behind a gossip", x.hears(0, 2), 32);
        x = rung("caller a plain trouble 9 knows 1 holds 9;caller b plain trouble 9 knows 2 holds 9;"
            + "believes met=3 and held=2;", 0, 1);
        x.minute();
        Check.due("23: met twice then", x.hears(0, 1), 0);
        x.minute();
        Check.due("23: met thrice, held two", x.hears(0, 1), 4);
        x.off(0);
        Check.due("23: does not hold", x.hears(0, 1), 0);
        Check.due("23: the other one does", x.hears(1, 0), 2);
    }

    private static void deal() {
        HeldMusic x = Check.opened(FOUR);
        Check.due("24: nobody", x.deal(-1), 0);
        Check.due("24: no such", x.deal(0), -2);
        x.ring(2);
        x.ring(0);
        x.ring(3);
        x.ring(1);
        Check.due("24: two", x.deal(-1), 2);
        int[] row = {0, 1, 2, 3, -2};
        for (int i = 0; i < row.length; i++) {
            Check.due("24: " + i, x.deal(i), row[i]);
        }
        Check.due("24: others", x.deal(-2), -2);
        Check.due("24: others", x.deal(6), -2);
        x = rung("takes 1;caller a plain trouble 9 knows 0 holds 1;caller b plain trouble 8 knows 0 holds 5;", 1, 0);
        // a is off before he could be taken up, whatever the order; b is taken up.
        Check.due("24: one taken up", x.deal(-1), 1);
        Check.due("24: the first row", x.deal(0), 0);
    }

    private static void usualLostWisest() {
        HeldMusic x = Check.opened(FOUR);
        Check.due("25: nobody", x.usual(0), -1);
        Check.due("25: others", x.usual(4), -1);
        Check.due("25: others", x.usual(-1), -1);
        Check.due("26: nobody", x.lost(), 0);
        Check.due("27: equal, the first", x.wisest(), 0);
        x.ring(2);
        x.ring(3);
        x.minute();
        Check.due("25: d", x.usual(2), 3);
        Check.due("26: both", x.lost(), 12);
        Check.due("27: c has two", x.wisest(), 2);
        x.ring(0);
        x.swap(0, 3);
        x.minute();
        Check.due("25: equal, the first", x.usual(2), 0);
        x.swap(0, 3);
        x.minute();
        Check.due("25: the most", x.usual(2), 3);
        x = rung("caller a plain trouble 1 knows 1 holds 3;caller b plain trouble 2 knows 3 holds 3;"
            + "caller c plain trouble 4 knows 2 holds 3;", 0, 1);
        Check.due("26: he has it himself; c is not on it", x.lost(), 2);
        x.ring(2);
        Check.due("26: c has b's", x.lost(), 4);
        Check.due("27: nobody", new HeldMusic().wisest(), -1);
    }

    private static void setsAndAsk() {
        HeldMusic x = rung(FOUR, 0);
        Check.due("29: all sets of three", x.sets(0), 8);
        Check.due("29: in all", x.sets(1), 0);
        Check.due("29: in some", x.sets(2), 14);
        Check.due("29: others", x.sets(3), -1);
        Check.due("29: others", x.sets(-1), -1);
        // a is settled by b, who rings ahead of c and d: half of the sets.
        Check.due("30: a", x.ask(), 0);
        Check.due("28: others", x.tell(4, true), false);
        Check.due("28: others", x.tell(-1, true), false);
        Check.due("28: told", x.tell(0, true), true);
        Check.due("29: with b", x.sets(0), 4);
        Check.due("29: b in all", x.sets(1), 2);
        Check.due("29: in some", x.sets(2), 14);
        Check.due("30: none parts them", x.ask(), -1);
        x.tell(0, false);
        Check.due("29: the later one counts", x.sets(0), 4);
        Check.due("29: without b", x.sets(2), 12);
        x.tell(2, true);
        Check.due("29: no set", x.sets(0), 0);
        Check.due("29: no set", x.sets(1), -1);
        Check.due("29: no set", x.sets(2), -1);
        Check.due("30: no set", x.ask(), -1);
    }

    private static void chance() {
        HeldMusic x = rung(FOUR, 2, 0, 1);
        // Of the six rows of three, a and b are the first two in two.
        Check.due("31: a", x.chance(0), 333333);
        Check.due("31: c", x.chance(2), 0);
        Check.due("31: not on it", x.chance(3), -1);
        Check.due("31: others", x.chance(4), -1);
        Check.due("31: others", x.chance(-1), -1);
        x = rung("takes 1;caller a plain trouble 9 knows 0 holds 5;caller b plain trouble 8 knows 0 holds 5;"
            + "caller c plain trouble 7 knows 0 holds 5;", 0, 1, 2);
        Check.due("31: taken up", x.chance(1), 333333);
        x = rung("takes 1;caller a plain trouble 9 knows 0 holds 5;", 0);
        Check.due("31: surely", x.chance(0), 1000000);
    }

    private static void other() {
        HeldMusic x = Check.opened(FOUR);
        Check.due("32: no day", x.other(1), 0);
        Check.due("day", Check.day(x, "ring c;ring d;minute;minute;"), 0);
        Check.due("32: takes 1", x.other(1), 2);
        Check.due("32: takes 2", x.other(2), 1);
        Check.due("32: takes 3", x.other(3), 0);
        Check.due("32: takes 20", x.other(20), 0);
        Check.due("32: others", x.other(0), -1);
        Check.due("32: others", x.other(21), -1);
        Check.due("36: takes stays", x.count(1), 20);
    }

    private static void rests() {
        HeldMusic x = new HeldMusic();
        int throwsIt = Integer.MIN_VALUE;
        for (int both = 0; both < 10; both++) {
            for (int says = 0; says < 10; says++) {
                x = new HeldMusic();
                for (int listens = 0; listens < 10; listens++) {
                    boolean[] rest = {says == 0, both <= listens, both <= listens, both >= listens};
                    int found = 0;
                    for (int i = 0; i < 4; i++) {
                        if (rest[i]) {
                            Check.due("33: the i-th", Check.rests(x, both, says, listens, found), i);
                            found++;
                        }
                    }
                    Check.due("33: how many", Check.rests(x, both, says, listens, -1), found);
                    Check.due("33: none such", Check.rests(x, both, says, listens, found), throwsIt);
                }
            }
        }
        int[][] others = {{-1, 0, 0, -1}, {10, 0, 0, -1}, {0, -1, 0, -1}, {0, 10, 0, -1}, {0, 0, -1, -1},
            {0, 0, 10, -1}, {0, 0, 0, -2}, {0, 0, 0, 4}, {0, 0, 0, Integer.MAX_VALUE}, {0, 0, 0, Integer.MIN_VALUE}};
        for (int[] o : others) {
            Check.due("33: others", Check.rests(x, o[0], o[1], o[2], o[3]), throwsIt);
        }
    }

    private static void days() {
        HeldMusic x = Check.opened("caller a plain trouble 9 knows 0 holds 30;takes 20;");
        // One caller: every draw below 1 is his.
        long g = 0;
        boolean holds = false;
        for (int i = 0; i < 10; i++) {
            g = (g * 1103515245L + 12345L) % 2147483648L;
            if (!holds) {
                holds = true;
            } else {
                g = (g * 1103515245L + 12345L) % 2147483648L;
                holds = g / 65536 % 4 != 0;
            }
            Check.due("34: who holds behind " + (i + 1), x.days(0, i + 1, 1), holds ? 1 : 0);
        }
        Check.due("34: answers", x.days(0, 1, 2), 1);
        Check.due("34: settled", x.days(0, 1, 0), 0);
        int[][] others = {{-1, 1, 0}, {10000, 1, 0}, {0, 0, 0}, {0, 100, 0}, {0, 1, -1}, {0, 1, 3}};
        for (int[] o : others) {
            Check.due("34: others", x.days(o[0], o[1], o[2]), -1);
        }
        Check.due("34: the edges", x.days(9999, 99, 0) >= 0, true);
        x = Check.opened("caller a plain trouble 9 knows 9 holds 30;");
        x.ring(0);
        x.minute();
        Check.due("34: settled before does not count", x.days(0, 9, 0), 0);
        Check.due("34: no callers", new HeldMusic().days(0, 9, 2), 0);
    }

    private static void nothingIsChanged() {
        HeldMusic x = rung(FIVE, 3, 0, 2);
        x.minute();
        for (int i = -1; i < 6; i++) {
            x.next(i);
            x.when(i);
            x.gone(i);
            x.meets(i, 0);
            x.spread(i);
            x.order(i);
            x.helpers(i);
            x.hears(i, 1);
            x.deal(i);
            x.usual(i);
            x.sets(i);
            x.chance(i);
            x.other(i);
            x.days(i, 9, 0);
            x.judged(i);
        }
        x.empty();
        x.ask();
        int[] want = {5, 4, 1, 3, 13, 0, 9, 0, 0, 0, 4, 0};
        for (int what = 0; what < want.length; what++) {
            Check.due("asked only: count " + what, x.count(what), want[what]);
        }
        Check.due("asked only: line", x.line(0) + 10 * x.line(1) + 100 * x.line(2), 203);
        Check.due("asked only: held", x.caller(0, 6), 1);
        Check.due("asked only: met", x.met(0, 3), 1);
    }
}
