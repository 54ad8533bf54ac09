/** The edges of a MINUTE: promise 11, and what the document's second part says; a method for each sentence. */
public final class MinuteEdgesTest {
    /** Six whom nobody helps, each with an answer of his own number. */
    private static final String SIX = "takes 20;caller a plain trouble 9 knows 0 holds 30;caller b plain trouble 9 knows 1 holds 30;"
        + "caller c plain trouble 9 knows 2 holds 30;caller d plain trouble 9 knows 3 holds 30;"
        + "caller e plain trouble 9 knows 4 holds 30;caller f plain trouble 9 knows 5 holds 30;";

    public static void main(String[] args) {
        nobodyOnTheLine();
        pairsOfAnyLength();
        oneLeftOverHearsMusic();
        asTheyStandThen();
        theFirstTellsFirst();
        thePairsOneBehindAnother();
        aShyOneTellsOneAnswer();
        aShyOneWithoutIt();
        othersTellAll();
        aGossipTellsFromBehind();
        aGossipWithNobodyBehind();
        theOneBehindBothOfTheLastPair();
        aGossipOfTheSecondPair();
        aDeafOneHearsNothing();
        aDeafOneTells();
        settledByTalk();
        settledByHisOwnAnswer();
        oneLeftOverIsSettled();
        settledAheadOfOff();
        whoIsSettledIsNoMoreOnIt();
        heldAMinuteMore();
        offAfterAsLongAsHeHolds();
        offLeavesThePlacesBehind();
        takenUpAtTakesAndItsMultiples();
        takenUpByTheMinutesOfAll();
        takenUpIsTheFirstLeft();
        nobodyIsTakenUpOfNobody();
        oneIsTakenUpAtATime();
        takenUpHasTheAnswer();
        minuteAnswersWhoIsSettledByIt();
        itIsTheNextMinute();
        Check.end("MinuteEdgesTest");
    }

    private static HeldMusic rung(String office, int... callers) {
        HeldMusic x = Check.opened(office);
        for (int who : callers) {
            x.ring(who);
        }
        return x;
    }

    private static void nobodyOnTheLine() {
        HeldMusic x = Check.opened(SIX);
        Check.due("11: nobody", x.minute(), 0);
        Check.due("36: it is the next", x.count(2), 1);
        Check.due("36: it can be undone", x.count(10), 1);
        Check.due("36: no answer has got about", x.count(6), 6);
    }

    private static void pairsOfAnyLength() {
        for (int many = 1; many <= 6; many++) {
            HeldMusic x = Check.opened(SIX);
            for (int who = 0; who < many; who++) {
                x.ring(who);
            }
            Check.due("11: nobody is settled", x.minute(), 0);
            for (int who = 0; who < 6; who++) {
                int partner = who ^ 1;
                boolean put = who < many && partner < many;
                Check.due("6: put through", x.met(who, partner), put ? 1 : 0);
                Check.due("11: answers of " + who + " of " + many, x.caller(who, 3), put ? 1 << who | 1 << partner : 1 << who);
                Check.due("6: to nobody else", x.met(who, (who + 2) % 6), 0);
                Check.due("6: to nobody else", x.met(who, (who + 3) % 6), (who ^ 1) == (who + 3) % 6 && put ? 1 : 0);
            }
        }
    }

    private static void oneLeftOverHearsMusic() {
        HeldMusic x = rung(SIX, 0, 1, 2);
        x.minute();
        Check.due("11: he has his own", x.caller(2, 3), 4);
        Check.due("11: he has held, too", x.caller(2, 6), 1);
        Check.due("25: he was put through to nobody", x.usual(2), -1);
        Check.due("14: nor is he next", x.next(2), -1);
    }

    private static void asTheyStandThen() {
        HeldMusic x = rung(SIX, 0, 1, 2, 3);
        x.swap(1, 2);
        x.minute();
        Check.due("6: a and c", x.met(0, 2), 1);
        Check.due("6: b and d", x.met(1, 3), 1);
        Check.due("6: not a and b", x.met(0, 1), 0);
        x.off(0);
        x.minute();
        Check.due("6: c and b now", x.met(2, 1), 1);
        Check.due("6: d is left over", x.met(1, 3), 1);
    }

    private static void theFirstTellsFirst() {
        // A shy first one does not know yet what he hears afterwards.
        String two = "caller s shy trouble 5 knows 1 holds 9;caller p plain trouble 2 knows 2 3 holds 9;caller d plain trouble 1 knows 4 holds 9;";
        HeldMusic x = rung("takes 20;caller g plain trouble 9 knows 1 holds 9;caller h plain trouble 9 knows 2 holds 9;believes own<theirs;", 0, 1);
        x.minute();
        Check.due("11: equal ones do not believe", x.count(6), 2);
        x = rung("takes 20;caller g plain trouble 9 knows 1 holds 9;caller h plain trouble 9 knows 2 holds 9;believes own<theirs+1;", 0, 1);
        x.minute();
        Check.due("11: the second believes, then the first", x.count(6), 4);
        x = rung("takes 20;caller g plain trouble 9 knows 1 holds 9;caller h plain trouble 9 knows 2 holds 9;believes own=theirs;", 0, 1);
        x.minute();
        Check.due("11: the second has both", x.caller(1, 3), 6);
        Check.due("11: and has more then than the first", x.caller(0, 3), 2);
        x = rung("takes 20;caller g plain trouble 9 knows 1 holds 9;caller h plain trouble 9 knows 2 holds 9;believes own=theirs;", 1, 0);
        x.minute();
        Check.due("11: the other way round", x.caller(0, 3), 6);
        Check.due("11: the other way round", x.caller(1, 3), 4);
        x = rung(two, 0, 1);
        Check.due("11: p has his own answer", x.minute(), 2);
    }

    private static void thePairsOneBehindAnother() {
        // The gossip of the first pair tells what c has before c hears d.
        String office = "takes 20;caller g gossip trouble 9 knows 0 holds 9;caller b plain trouble 9 knows 1 holds 9;"
            + "caller c plain trouble 9 knows 2 holds 9;caller d plain trouble 9 knows 3 holds 9;caller e plain trouble 9 knows 4 holds 9;";
        HeldMusic x = rung(office, 0, 1, 2, 3);
        x.minute();
        Check.due("11: b has g's and c's, not d's", x.caller(1, 3), 7);
        Check.due("11: c has d's", x.caller(2, 3), 12);
        // A gossip in the second pair tells what the fifth has; the first pair is over then.
        x = rung(office, 1, 2, 0, 3, 4);
        x.minute();
        Check.due("11: d has g's and e's", x.caller(3, 3), 25);
        Check.due("11: c has b's", x.caller(2, 3), 6);
        Check.due("11: e has his own", x.caller(4, 3), 16);
    }

    private static void aShyOneTellsOneAnswer() {
        String office = "takes 20;caller s shy trouble 9 knows 1 2 3 holds 9;caller p plain trouble 2 knows 0 holds 9;"
            + "caller q plain trouble 8 knows 0 holds 9;";
        HeldMusic x = rung(office, 0, 1);
        Check.due("11: p is settled", x.minute(), 2);
        Check.due("11: by the one answer", x.caller(1, 3), 5);
        Check.due("11: s has p's", x.caller(0, 3), 15);
    }

    private static void aShyOneWithoutIt() {
        String office = "takes 20;caller s shy trouble 9 knows 1 2 3 holds 9;caller q plain trouble 8 knows 0 holds 9;";
        HeldMusic x = rung(office, 1, 0);
        Check.due("11: nobody", x.minute(), 0);
        Check.due("11: q has nothing of him", x.caller(1, 3), 1);
        // The answer to his own trouble is not what the other one's needs.
        x = rung("takes 20;caller s shy trouble 9 knows 1 8 holds 9;caller q plain trouble 7 knows 9 holds 9;", 0, 1);
        Check.due("11: s is settled by q", x.minute(), 1);
        Check.due("11: q has nothing of him", x.caller(1, 3), 512);
    }

    private static void othersTellAll() {
        String[] kinds = {"plain", "gossip", "deaf"};
        for (String kind : kinds) {
            HeldMusic x = rung("takes 20;caller t " + kind + " trouble 9 knows 0 1 2 3 4 5 holds 9;caller h plain trouble 8 knows 7 holds 9;", 0, 1);
            x.minute();
            Check.due("11: all that a " + kind + " one has", x.caller(1, 3), 63 | 128);
        }
    }

    private static void aGossipTellsFromBehind() {
        String office = "takes 20;caller g gossip trouble 9 knows 0 holds 9;caller p plain trouble 9 knows 1 holds 9;"
            + "caller d deaf trouble 9 knows 2 3 holds 9;caller s shy trouble 9 knows 4 5 holds 9;";
        HeldMusic x = rung(office, 0, 1, 2);
        x.minute();
        Check.due("11: p has what the one behind has", x.caller(1, 3), 15);
        Check.due("11: g has it back from p", x.caller(0, 3), 15);
        Check.due("11: d's own are his", x.caller(2, 3), 12);
        // A shy one behind both is not asked.
        x = rung(office, 0, 1, 3);
        x.minute();
        Check.due("11: all that the shy one has", x.caller(1, 3), 51);
        // The second one may be the gossip: behind both is the third as well.
        x = rung(office, 1, 0, 2);
        x.minute();
        Check.due("11: the second one is the gossip", x.caller(1, 3), 15);
        Check.due("11: he has not what he tells", x.caller(0, 3), 3);
        Check.due("6: not put through to him", x.met(1, 2), 0);
    }

    private static void aGossipWithNobodyBehind() {
        String office = "takes 20;caller g gossip trouble 9 knows 0 holds 9;caller p plain trouble 9 knows 1 holds 9;"
            + "caller d plain trouble 9 knows 2 holds 9;caller e plain trouble 9 knows 3 holds 9;";
        HeldMusic x = rung(office, 0, 1);
        x.minute();
        Check.due("11: two alone", x.count(6), 2 + 2 + 1 + 1);
        x = rung(office, 2, 3, 0, 1);
        x.minute();
        Check.due("11: the last two of four", x.caller(1, 3), 3);
        Check.due("11: not from the one ahead", x.caller(0, 3), 3);
    }

    private static void theOneBehindBothOfTheLastPair() {
        String office = "takes 20;caller a plain trouble 9 knows 0 holds 9;caller b plain trouble 9 knows 1 holds 9;"
            + "caller g gossip trouble 9 knows 2 holds 9;caller d plain trouble 9 knows 3 holds 9;caller e plain trouble 9 knows 4 holds 9;"
            + "caller f plain trouble 9 knows 5 holds 9;";
        HeldMusic x = rung(office, 0, 1, 2, 3, 4);
        x.minute();
        Check.due("11: the one left over is behind both", x.caller(3, 3), 28);
        x = rung(office, 0, 1, 2, 3, 4, 5);
        x.minute();
        Check.due("11: the next one alone, not the one behind him", x.caller(3, 3), 28);
        x = rung(office, 0, 1, 4, 5, 2, 3);
        x.minute();
        Check.due("11: the last pair of six", x.caller(3, 3), 12);
    }

    private static void aGossipOfTheSecondPair() {
        // Two gossips: each tells of the one behind his own pair.
        HeldMusic x = rung("takes 20;caller g gossip trouble 9 knows 0 holds 9;caller b plain trouble 9 knows 1 holds 9;"
            + "caller h gossip trouble 9 knows 2 holds 9;caller d plain trouble 9 knows 3 holds 9;caller e plain trouble 9 knows 4 holds 9;", 0, 1, 2, 3, 4);
        x.minute();
        Check.due("11: of h alone", x.caller(1, 3), 7);
        Check.due("11: of e alone", x.caller(3, 3), 28);
    }

    private static void aDeafOneHearsNothing() {
        String office = "takes 20;caller d deaf trouble 1 knows 0 holds 9;caller p plain trouble 9 knows 1 holds 9;believes 1;";
        HeldMusic x = rung(office, 0, 1);
        Check.due("11: not settled by it", x.minute(), 0);
        Check.due("11: d has his own", x.caller(0, 3), 1);
        Check.due("6: they were put through", x.met(0, 1), 1);
        x = rung(office, 1, 0);
        x.minute();
        Check.due("11: nor as the second one", x.caller(0, 3), 1);
    }

    private static void aDeafOneTells() {
        HeldMusic x = rung("takes 3;caller d deaf trouble 1 knows 0 2 holds 9;caller p plain trouble 9 knows 1 holds 9;", 0, 1);
        x.minute();
        Check.due("11: p has d's", x.caller(1, 3), 7);
        x.minute();
        Check.due("11: a deaf one is taken up", x.minute(), 1);
        Check.due("11: he has the answer then", x.caller(0, 3), 7);
        x = rung("caller d deaf trouble 1 knows 1 holds 9;", 0);
        Check.due("11: a deaf one is settled by his own", x.minute(), 1);
    }

    private static void settledByTalk() {
        HeldMusic x = rung("takes 20;caller a plain trouble 1 knows 2 holds 9;caller b plain trouble 2 knows 1 holds 9;"
            + "caller c plain trouble 3 knows 4 holds 9;caller d plain trouble 9 knows 3 holds 9;", 0, 1, 2, 3);
        Check.due("11: both of a pair, one of the other", x.minute(), 7);
        Check.due("36: settled", x.count(5), 7);
        Check.due("36: nobody taken up", x.count(7), 0);
        Check.due("7: d moves to the front", x.line(0), 3);
        Check.due("36: he alone", x.count(3), 1);
    }

    private static void settledByHisOwnAnswer() {
        HeldMusic x = Check.opened("caller a plain trouble 1 knows 1 holds 9;");
        Check.due("5: not before he rings", x.caller(0, 4), 0);
        x.ring(0);
        Check.due("5: nor by ringing", x.caller(0, 4), 0);
        Check.due("11: by the minute", x.minute(), 1);
        x = rung("takes 20;caller a plain trouble 1 knows 1 holds 9;caller b plain trouble 2 knows 3 holds 9;", 0, 1);
        Check.due("11: of a pair the one", x.minute(), 1);
        Check.due("11: who has told all the same", x.caller(1, 3), 10);
    }

    private static void oneLeftOverIsSettled() {
        HeldMusic x = rung("takes 20;caller a plain trouble 9 knows 0 holds 9;caller b plain trouble 9 knows 0 holds 9;"
            + "caller c plain trouble 1 knows 1 holds 9;", 0, 1, 2);
        Check.due("11: the one left over", x.minute(), 4);
    }

    private static void settledAheadOfOff() {
        HeldMusic x = rung("takes 20;caller a plain trouble 1 knows 2 holds 1;caller b plain trouble 9 knows 1 holds 1;", 0, 1);
        Check.due("11: settled in his only minute", x.minute(), 1);
        Check.due("36: the other one is off", x.count(3), 0);
        Check.due("36: and not settled", x.count(5), 1);
    }

    private static void whoIsSettledIsNoMoreOnIt() {
        HeldMusic x = rung("takes 20;caller a plain trouble 9 knows 0 holds 9;caller b plain trouble 1 knows 1 holds 9;"
            + "caller c plain trouble 9 knows 2 holds 9;caller d plain trouble 2 knows 2 holds 9;caller e plain trouble 9 knows 3 holds 9;", 0, 1, 2, 3, 4);
        Check.due("11: b and d", x.minute(), 10);
        int[] row = {0, 2, 4, -1};
        for (int i = 0; i < row.length; i++) {
            Check.due("7: place " + i, x.line(i), row[i]);
        }
        Check.due("5: b's place", x.caller(1, 5), -1);
        Check.due("5: b has held nothing", x.caller(1, 6), 0);
        // Behind some minutes, too.
        x = rung("takes 20;believes met=3;caller a plain trouble 1 knows 2 holds 9;caller b plain trouble 2 knows 1 holds 9;", 0, 1);
        x.minute();
        x.minute();
        Check.due("5: held two", x.caller(0, 6), 2);
        Check.due("11: both", x.minute(), 3);
        Check.due("5: held nothing when settled", x.caller(0, 6), 0);
        Check.due("5: held nothing when settled", x.caller(1, 6), 0);
    }

    private static void heldAMinuteMore() {
        HeldMusic x = rung(SIX, 0);
        for (int i = 1; i < 20; i++) {
            x.minute();
            Check.due("5: held", x.caller(0, 6), i);
            Check.due("5: not by whoever is not on it", x.caller(1, 6), 0);
        }
    }

    private static void offAfterAsLongAsHeHolds() {
        int[] all = {1, 2, 3, 19, 29, 30};
        for (int holds : all) {
            // Who stands behind another is not taken up.
            HeldMusic x = Check.opened("takes 20;caller a plain trouble 9 knows 0 holds " + holds + ";caller b plain trouble 9 knows 1 holds 30;");
            x.ring(1);
            x.ring(0);
            for (int i = 1; i < holds; i++) {
                x.minute();
                Check.due("11: he holds still", x.caller(0, 6), i);
            }
            Check.due("11: then he is off", x.minute(), 0);
            Check.due("5: no place", x.caller(0, 5), -1);
            Check.due("5: not settled", x.caller(0, 4), 0);
            Check.due("5: held nothing", x.caller(0, 6), 0);
        }
    }

    private static void offLeavesThePlacesBehind() {
        HeldMusic x = rung("takes 20;caller a plain trouble 9 knows 0 holds 1;caller b plain trouble 9 knows 0 holds 9;"
            + "caller c plain trouble 9 knows 0 holds 1;caller d plain trouble 9 knows 0 holds 9;", 0, 1, 2, 3);
        x.minute();
        Check.due("7: b is the first", x.line(0), 1);
        Check.due("7: d is the second", x.line(1), 3);
        Check.due("36: two", x.count(3), 2);
        x.minute();
        Check.due("6: they are put through now", x.met(1, 3), 1);
    }

    private static void takenUpAtTakesAndItsMultiples() {
        int[] all = {1, 2, 3, 5, 19, 20};
        for (int takes : all) {
            HeldMusic x = Check.opened("takes " + takes + ";caller a plain trouble 9 knows 0 holds 30;caller b plain trouble 9 knows 1 holds 30;"
                + "caller c plain trouble 9 knows 1 holds 30;");
            for (int i = 1; i <= 3 * takes + 1; i++) {
                int who = (i - 1) / takes;
                if (who < 3 && x.count(3) == 0) {
                    x.ring(who);
                }
                Check.due("11: minute " + i + ", takes " + takes, x.minute(), i % takes == 0 && who < 3 ? 1 << who : 0);
            }
            Check.due("36: all three", x.count(7), 7);
        }
        HeldMusic x = rung("caller a plain trouble 9 knows 0 holds 30;", 0);
        for (int i = 1; i <= 4; i++) {
            Check.due("11: five, as at first", x.minute(), 0);
        }
        Check.due("11: the fifth", x.minute(), 1);
    }

    private static void takenUpByTheMinutesOfAll() {
        // It is the minutes that are over that count, not those that he has held.
        HeldMusic x = Check.opened("takes 3;caller a plain trouble 9 knows 0 holds 30;");
        x.minute();
        x.minute();
        x.ring(0);
        Check.due("11: in his first minute", x.minute(), 1);
        x = Check.opened("takes 3;caller a plain trouble 9 knows 0 holds 30;");
        x.minute();
        x.minute();
        x.minute();
        x.ring(0);
        Check.due("11: not in the fourth", x.minute(), 0);
        Check.due("11: nor in the fifth", x.minute(), 0);
        Check.due("11: in the sixth", x.minute(), 1);
        x = Check.opened("takes 3;caller a plain trouble 9 knows 0 holds 30;");
        x.minute();
        x.undo();
        x.ring(0);
        x.minute();
        x.minute();
        Check.due("11: an undone one is not over", x.minute(), 1);
    }

    private static void takenUpIsTheFirstLeft() {
        // The first is settled, the second is off: the third is taken up.
        HeldMusic x = rung("takes 1;caller a plain trouble 1 knows 1 holds 9;caller b plain trouble 9 knows 0 holds 1;"
            + "caller c plain trouble 9 knows 0 holds 9;caller d plain trouble 9 knows 0 holds 9;", 0, 1, 2, 3);
        Check.due("11: a by his own, c taken up", x.minute(), 5);
        Check.due("36: c alone was taken up", x.count(7), 4);
        Check.due("7: d is left", x.line(0), 3);
        Check.due("36: he alone", x.count(3), 1);
    }

    private static void nobodyIsTakenUpOfNobody() {
        HeldMusic x = rung("takes 1;caller a plain trouble 9 knows 0 holds 1;", 0);
        Check.due("11: off ahead of it", x.minute(), 0);
        Check.due("36: nobody", x.count(7), 0);
        x = Check.opened("takes 1;caller a plain trouble 9 knows 0 holds 2;");
        Check.due("11: nobody there", x.minute(), 0);
        x.ring(0);
        Check.due("11: taken up in time", x.minute(), 1);
    }

    private static void oneIsTakenUpAtATime() {
        HeldMusic x = rung("takes 1;" + SIX.substring(9), 5, 4, 3, 2, 1, 0);
        for (int i = 5; i >= 0; i--) {
            Check.due("11: the first", x.minute(), 1 << i);
        }
        Check.due("36: all", x.count(7), 63);
        Check.due("36: settled", x.count(5), 63);
        Check.due("11: nobody is left", x.minute(), 0);
    }

    private static void takenUpHasTheAnswer() {
        HeldMusic x = rung("takes 1;caller a plain trouble 0 knows 9 holds 9;caller b plain trouble 9 knows 0 holds 9;believes 0;", 0, 1);
        Check.due("11: a", x.minute(), 1);
        Check.due("5: his answer besides", x.caller(0, 3), 513);
        Check.due("5: b has not heard it", x.caller(1, 3), 1);
        Check.due("22: who has it", x.holders(0), 3);
        Check.due("5: his place", x.caller(0, 5), -1);
        Check.due("5: held nothing", x.caller(0, 6), 0);
        x.minute();
        Check.due("36: answers of all", x.count(6), 4);
    }

    private static void minuteAnswersWhoIsSettledByIt() {
        HeldMusic x = rung("takes 2;caller a plain trouble 1 knows 1 holds 9;caller b plain trouble 9 knows 0 holds 9;", 0, 1);
        Check.due("11: a", x.minute(), 1);
        Check.due("11: b alone", x.minute(), 2);
        Check.due("11: nobody", x.minute(), 0);
        Check.due("36: both", x.count(5), 3);
        // Who is off is not in it.
        x = rung("takes 20;caller a plain trouble 9 knows 1 holds 1;", 0);
        Check.due("11: off is not settled", x.minute(), 0);
    }

    private static void itIsTheNextMinute() {
        HeldMusic x = Check.opened(SIX);
        for (int i = 1; i <= 60; i++) {
            x.minute();
            Check.due("36: the minute", x.count(2), i);
        }
    }
}
