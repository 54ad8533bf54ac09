/** The edges of DAYS by draws and of SAYING: promises 33 and 34; a method for each sentence. */
public final class DrawEdgesTest {
    private static final int THROWN = Integer.MIN_VALUE;
    /** What comes of g / 65536 from the seed 1 on: these are well known. */
    private static final int[] FROM_ONE = {16838, 5758, 10113, 17515, 31051, 5627, 23010, 7419, 16212, 4086};

    public static void main(String[] args) {
        theDrawsThemselves();
        whoIsDrawn();
        offByADrawOfNought();
        settledOnesAreNotDrawnAgain();
        noCallersNoDraws();
        seedsOfFourDigits();
        minutesOneToNinetyNine();
        whatsOfDays();
        settledByTheseAlone();
        answersOfAllTogether();
        fromNowOn();
        daysChangeNothing();
        restsOfEachGain();
        restsGainsZeroToNine();
        restsTheLeastFirst();
        restsNoneSuch();
        restsNeedNoOffice();
        Check.end("DrawEdgesTest");
    }

    /** So many whom nobody helps and nobody takes up in time. */
    private static String helpless(int many) {
        StringBuilder office = new StringBuilder("takes 20;believes 0;");
        for (int i = 0; i < many; i++) {
            office.append("caller ").append((char) ('a' + i)).append(" plain trouble 9 knows ").append(i).append(" holds 30;");
        }
        return office.toString();
    }

    private static void theDrawsThemselves() {
        // Six, of whom the draws below 6 from the seed 1 are 2, 4, 3, 1, 1 (and 3 below 4), 0, 3 (and 0 below 4: off).
        int[] line = {4, 20, 28, 30, 30, 31, 23};
        HeldMusic x = Check.opened(helpless(6));
        for (int i = 0; i < line.length; i++) {
            Check.due("34: seed 1, behind " + (i + 1), x.days(1, i + 1, 1), line[i]);
        }
        // From the seed 0 the first is 12345 / 65536, cut: 0.
        Check.due("34: seed 0", x.days(0, 1, 1), 1);
        for (int many = 1; many <= 6; many++) {
            x = Check.opened(helpless(many));
            Check.due("34: the first of " + many, x.days(1, 1, 1), 1 << FROM_ONE[0] % many);
            int second = 1 << FROM_ONE[1] % many;
            boolean again = second == 1 << FROM_ONE[0] % many;
            if (!again) {
                Check.due("34: the second of " + many, x.days(1, 2, 1), 1 << FROM_ONE[0] % many | second);
            }
        }
        // The product of 9999 goes beyond 32 bits: modulo 2147483648 it is 277963676, the draw below 6 is 5.
        x = Check.opened(helpless(6));
        Check.due("34: seed 9999", x.days(9999, 1, 1), 32);
    }

    private static void whoIsDrawn() {
        // One alone: he is drawn each minute.
        HeldMusic x = Check.opened(helpless(1));
        Check.due("34: rings", x.days(1, 1, 1), 1);
        // On the line: 5758 is his, then 10113 below 4 is 1: he holds on; 17515, 31051 (3); 5627, 23010 (2); 7419, 16212 (0).
        Check.due("34: holds on", x.days(1, 2, 1), 1);
        Check.due("34: holds on", x.days(1, 3, 1), 1);
        Check.due("34: holds on", x.days(1, 4, 1), 1);
        Check.due("34: off", x.days(1, 5, 1), 0);
        Check.due("34: rings again", x.days(1, 6, 1), 1);
    }

    private static void offByADrawOfNought() {
        // Who is on the line now is drawn by 16838 and holds on, for 5758 below 4 is 2.
        HeldMusic x = Check.opened(helpless(1));
        x.ring(0);
        Check.due("34: on the line already", x.days(1, 1, 1), 1);
        // Of all seeds about a quarter have him off in the first minute.
        int off = 0;
        int due = 0;
        for (int seed = 0; seed < 100; seed++) {
            long g = ((seed * 1103515245L + 12345L) % 2147483648L * 1103515245L + 12345L) % 2147483648L;
            due += g / 65536 % 4 == 0 ? 1 : 0;
            off += 1 - x.days(seed, 1, 1);
        }
        Check.due("34: off by 0 alone", off, due);
        Check.due("34: not never, nor always", due > 10 && due < 50, true);
    }

    private static void settledOnesAreNotDrawnAgain() {
        // A is settled in the first minute (16838: a). Then 5758 is a's: nothing, and no second draw; 10113 is b's: he rings;
        // 17515 is b's, 31051 below 4 is 3; 5627 is b's, 23010 below 4 is 2; 7419 is b's, 16212 below 4 is 0: off.
        HeldMusic x = Check.opened("takes 20;believes 0;caller a plain trouble 1 knows 1 holds 9;caller b plain trouble 9 knows 0 holds 30;");
        int[] line = {0, 0, 2, 2, 2, 0};
        int[] settled = {1, 1, 1, 1, 1, 1};
        for (int i = 0; i < line.length; i++) {
            Check.due("34: line behind " + (i + 1), x.days(1, i + 1, 1), line[i]);
            Check.due("34: settled behind " + (i + 1), x.days(1, i + 1, 0), settled[i]);
        }
        int[] lines = linesOf(2, 3, 40);
        for (int i = 0; i < lines.length; i++) {
            Check.due("34: seed 3, line behind " + (i + 1), x.days(3, i + 1, 1), lines[i]);
        }
    }

    /** A settled at once, b by the draws alone, taken up in no minute that he holds at: the draws once more, in short. */
    private static int[] linesOf(int many, int seed, int minutes) {
        int[] lines = new int[minutes];
        long g = seed;
        boolean settled = false;
        boolean taken = false;
        boolean holds = false;
        int held = 0;
        for (int i = 0; i < minutes; i++) {
            g = (g * 1103515245L + 12345L) % 2147483648L;
            int who = (int) (g / 65536 % many);
            if (who == 0) {
                settled = true;
            } else if (!holds && !taken) {
                holds = true;
                held = 0;
            } else if (holds) {
                g = (g * 1103515245L + 12345L) % 2147483648L;
                holds = g / 65536 % 4 != 0;
            }
            held++;
            if (held == 30) {
                holds = false;
            }
            if ((i + 1) % 20 == 0 && holds) {
                taken = true;
                holds = false;
            }
            lines[i] = holds ? 2 : 0;
        }
        Check.due("34: a was drawn", settled, true);
        return lines;
    }

    private static void noCallersNoDraws() {
        HeldMusic x = new HeldMusic();
        for (int what = 0; what <= 2; what++) {
            Check.due("34: at first", x.days(1, 99, what), 0);
        }
        Check.due("34: others for all that", x.days(1, 100, 0), -1);
    }

    private static void seedsOfFourDigits() {
        HeldMusic x = Check.opened(helpless(2));
        Check.due("34: 0", x.days(0, 1, 1) > 0, true);
        Check.due("34: 9999", x.days(9999, 1, 1) > 0, true);
        int[] others = {-1, 10000, Integer.MIN_VALUE, Integer.MAX_VALUE};
        for (int seed : others) {
            Check.due("34: seed " + seed, x.days(seed, 1, 1), -1);
        }
    }

    private static void minutesOneToNinetyNine() {
        HeldMusic x = Check.opened(helpless(6));
        int[] others = {0, -1, 100, 101, Integer.MIN_VALUE, Integer.MAX_VALUE};
        for (int minutes : others) {
            Check.due("34: minutes " + minutes, x.days(1, minutes, 0), -1);
        }
        Check.due("34: 1", x.days(1, 1, 0), 0);
        // One in each twenty minutes is taken up: the fifth in the 100th.
        Check.due("34: 19", x.days(1, 19, 0), 0);
        Check.due("34: 20", x.days(1, 20, 0), 1);
        Check.due("34: 98", x.days(1, 98, 0), 4);
        Check.due("34: 99", x.days(1, 99, 0), 4);
        x.minute();
        Check.due("34: the 99th behind one", x.days(1, 98, 0), 4);
        Check.due("34: the 100th behind one", x.days(1, 99, 0), 5);
    }

    private static void whatsOfDays() {
        HeldMusic x = Check.opened(helpless(3));
        int[] others = {-1, -2, 3, 4, Integer.MIN_VALUE, Integer.MAX_VALUE};
        for (int what : others) {
            Check.due("34: what " + what, x.days(1, 1, what), -1);
        }
        Check.due("34: what 0", x.days(1, 1, 0), 0);
        Check.due("34: what 1", x.days(1, 1, 1), 1 << FROM_ONE[0] % 3);
        Check.due("34: what 2", x.days(1, 1, 2), 3);
    }

    private static void settledByTheseAlone() {
        HeldMusic x = Check.opened("takes 20;caller a plain trouble 1 knows 1 holds 9;caller b plain trouble 2 knows 2 holds 9;");
        Check.due("34: a by the first", x.days(1, 1, 0), 1);
        Check.due("34: and b by the third", x.days(1, 3, 0), 2);
        x.ring(1);
        x.minute();
        Check.due("36: b is settled", x.count(5), 2);
        Check.due("34: he is not counted", x.days(1, 1, 0), 1);
        Check.due("34: nor later", x.days(1, 99, 0), 1);
        x.ring(0);
        Check.due("34: who is on the line is", x.days(1, 1, 0), 1);
        x.minute();
        Check.due("34: nobody is left", x.days(1, 99, 0), 0);
    }

    private static void answersOfAllTogether() {
        HeldMusic x = Check.opened("takes 20;caller a plain trouble 9 knows 0 1 holds 30;caller b plain trouble 9 knows 2 holds 30;");
        x.ring(0);
        x.ring(1);
        // 16838 is a's, 5758 below 4 is 2: both hold on and are put through.
        Check.due("34: both have all three", x.days(1, 1, 2), 6);
        Check.due("36: now they have not", x.count(6), 3);
        x = Check.opened("takes 1;caller a plain trouble 9 knows 0 holds 2;");
        Check.due("34: taken up, with his answer", x.days(1, 1, 2), 2);
    }

    private static void fromNowOn() {
        HeldMusic x = Check.opened("takes 3;believes 0;caller a plain trouble 9 knows 0 holds 30;");
        Check.due("34: takes by the minutes from the beginning", x.days(1, 1, 0), 0);
        x.minute();
        x.minute();
        Check.due("34: the third", x.days(1, 1, 0), 1);
        // What he has held counts on.
        x = Check.opened("takes 20;believes 0;caller a plain trouble 9 knows 0 holds 2;caller b plain trouble 9 knows 0 holds 30;");
        x.ring(1);
        x.ring(0);
        x.minute();
        Check.due("34: a is off behind two", x.days(1, 1, 1) & 1, 0);
    }

    private static void daysChangeNothing() {
        HeldMusic x = Check.opened(helpless(4));
        x.ring(1);
        x.minute();
        String before = Seen.of(x);
        int once = x.days(7, 50, 2);
        Check.due("34: the same again", x.days(7, 50, 2), once);
        x.days(7, 50, 0);
        x.days(9999, 99, 1);
        Seen.same("34: nothing is changed", Seen.of(x), before);
    }

    private static void restsOfEachGain() {
        for (int both = 0; both <= 9; both++) {
            for (int says = 0; says <= 9; says++) {
                HeldMusic x = new HeldMusic();
                for (int listens = 0; listens <= 9; listens++) {
                    // Both listen: neither gets more by saying it alone. One says: he gets no more by listening, the other none by saying.
                    boolean[] rest = {says <= 0, 0 <= says && both <= listens, 0 <= says && both <= listens, listens <= both};
                    int found = 0;
                    for (int i = 0; i < 4; i++) {
                        if (rest[i]) {
                            Check.due("33: " + both + " " + says + " " + listens, Check.rests(x, both, says, listens, found), i);
                            found++;
                        }
                    }
                    Check.due("33: how many", Check.rests(x, both, says, listens, -1), found);
                    Check.due("33: no more", Check.rests(x, both, says, listens, found), THROWN);
                }
            }
        }
    }

    private static void restsGainsZeroToNine() {
        HeldMusic x = new HeldMusic();
        int[] others = {-1, 10, 11, Integer.MIN_VALUE, Integer.MAX_VALUE};
        for (int gain : others) {
            for (int what = -1; what <= 0; what++) {
                Check.due("33: both", Check.rests(x, gain, 1, 1, what), THROWN);
                Check.due("33: says", Check.rests(x, 1, gain, 1, what), THROWN);
                Check.due("33: listens", Check.rests(x, 1, 1, gain, what), THROWN);
            }
        }
        Check.due("33: the least", Check.rests(x, 0, 0, 0, -1), 4);
        Check.due("33: the most", Check.rests(x, 9, 9, 9, -1), 3);
    }

    private static void restsTheLeastFirst() {
        HeldMusic x = new HeldMusic();
        for (int i = 0; i < 4; i++) {
            Check.due("33: all four rest", Check.rests(x, 0, 0, 0, i), i);
        }
        int[] three = {1, 2, 3};
        for (int i = 0; i < 3; i++) {
            Check.due("33: as good by both as by listening", Check.rests(x, 5, 1, 5, i), three[i]);
        }
        Check.due("33: the other one says", Check.rests(x, 4, 3, 5, 0), 1);
        Check.due("33: the first one says", Check.rests(x, 4, 3, 5, 1), 2);
        Check.due("33: both say", Check.rests(x, 5, 3, 4, 0), 3);
    }

    private static void restsNoneSuch() {
        HeldMusic x = new HeldMusic();
        int[] others = {-2, -3, 4, 5, Integer.MIN_VALUE, Integer.MAX_VALUE};
        for (int what : others) {
            Check.due("33: what " + what, Check.rests(x, 0, 0, 0, what), THROWN);
        }
        Check.due("33: the last", Check.rests(x, 5, 3, 4, 0), 3);
        Check.due("33: behind the last", Check.rests(x, 5, 3, 4, 1), THROWN);
        Check.due("33: behind the last of two", Check.rests(x, 4, 3, 5, 2), THROWN);
        Check.due("33: behind the last of three", Check.rests(x, 5, 1, 5, 3), THROWN);
        Check.due("33: behind the last of four", Check.rests(x, 0, 0, 0, 4), THROWN);
    }

    private static void restsNeedNoOffice() {
        HeldMusic x = Check.opened(helpless(3));
        x.ring(0);
        String before = Seen.of(x);
        Check.due("33: with an office", Check.rests(x, 4, 3, 6, -1), 2);
        Check.due("33: thrown", Check.rests(x, 10, 3, 6, -1), THROWN);
        Seen.same("33: nothing is changed", Seen.of(x), before);
    }
}
