/** The edges of an OFFICE and of NAMES: promises 1 and 3, and what the terms say of them; a method for each sentence. */
public final class OfficeEdgesTest {
    private static final String[] NO_NAMES = {"caller", "trouble", "knows", "holds", "takes", "believes", "ring", "off",
        "swap", "minute", "plain", "shy", "gossip", "deaf", "not", "and", "or"};

    public static void main(String[] args) {
        atFirst();
        anyNumberOfLinesInAnyOrder();
        sixCallersAtMost();
        numberedAsTold();
        fourKinds();
        troubleZeroToNine();
        oneToSixAnswers();
        answersZeroToNine();
        eachAnswerOnce();
        holdsOneToThirty();
        takesOneToTwenty();
        takesFiveWithoutIt();
        takesOnce();
        believesOnce();
        onceIsForOneOffice();
        wordsThatAreNoNames();
        wordsThatAreNames();
        noTwoAreAlike();
        namesAlmostAlike();
        allIsNewBehindAnOffice();
        fewerCallersThanBefore();
        theLawIsNewBehindAnOffice();
        manyLawsOneBehindAnother();
        allStaysBehindAFault();
        anOfficeBehindAFault();
        Check.end("OfficeEdgesTest");
    }

    private static String caller(String name) {
        return "caller " + name + " plain trouble 1 knows 2 holds 3;";
    }

    private static String callers(int many) {
        StringBuilder all = new StringBuilder();
        for (int i = 0; i < many; i++) {
            all.append(caller("" + (char) ('a' + i)));
        }
        return all.toString();
    }

    private static void faultOf(String text, int want) {
        Check.due("3: office of '" + text + "'", Check.office(new HeldMusic(), text), want);
    }

    private static void atFirst() {
        int[] want = {0, 5, 0, 0, 0, 0, 0, 0, 0, 0, 0, 0};
        for (int what = 0; what < want.length; what++) {
            Check.due("1: count " + what, new HeldMusic().count(what), want[what]);
        }
        HeldMusic x = new HeldMusic();
        Check.due("1: no caller", x.caller(0, 0), -2);
        Check.due("1: nobody rings", x.ring(0), -1);
        Check.due("1: nothing to undo", x.undo(), false);
        for (int mark = 0; mark < 4; mark++) {
            Check.due("1: no mark " + mark, x.mark(mark, true), false);
        }
        // Takes 5 with nobody there: the minutes go by.
        for (int i = 1; i <= 11; i++) {
            Check.due("1: minute " + i, x.minute(), 0);
        }
        Check.due("1: the minute", x.count(2), 11);
        Check.due("1: nobody taken up", x.count(7), 0);
    }

    private static void anyNumberOfLinesInAnyOrder() {
        faultOf("", 0);
        faultOf("takes 1;", 0);
        faultOf("believes 1;", 0);
        faultOf(callers(1), 0);
        faultOf("takes 1;believes 1;" + callers(2), 0);
        faultOf("believes 1;" + callers(2) + "takes 1;", 0);
        HeldMusic x = Check.opened(caller("a") + "takes 1;" + caller("b") + "believes 1;" + caller("c"));
        Check.due("3: three callers", x.count(0), 3);
        faultOf(";", Check.fault(1, 0));
        faultOf("takes 1;;", Check.fault(1, 8));
        faultOf("minute;", Check.fault(1, 0));
    }

    private static void sixCallersAtMost() {
        for (int many = 0; many <= 6; many++) {
            HeldMusic x = Check.opened(callers(many));
            Check.due("3: callers", x.count(0), many);
            Check.due("3: the last one", x.caller(many - 1, 2), many == 0 ? -2 : 3);
            Check.due("3: none behind him", x.caller(many, 2), -2);
        }
        faultOf(callers(7), Check.fault(5, callers(6).length()));
        faultOf(callers(6) + "takes 1;  caller", Check.fault(5, callers(6).length() + 10));
        faultOf(callers(6) + "takes 1;", 0);
    }

    private static void numberedAsTold() {
        HeldMusic x = Check.opened("caller z shy trouble 9 knows 0 holds 1;caller a deaf trouble 8 knows 1 holds 2;"
            + "caller m plain trouble 7 knows 2 holds 3;");
        for (int who = 0; who < 3; who++) {
            Check.due("3: trouble of " + who, x.caller(who, 1), 9 - who);
            Check.due("3: answers of " + who, x.caller(who, 3), 1 << who);
            Check.due("3: holds of " + who, x.caller(who, 2), who + 1);
        }
        Check.due("4: by names", Check.day(x, "ring m;ring z;"), 0);
        Check.due("13: both can be", x.judged(0), -1);
    }

    private static void fourKinds() {
        String[] kinds = {"plain", "shy", "gossip", "deaf"};
        for (int kind = 0; kind < 4; kind++) {
            HeldMusic x = Check.opened("caller a " + kinds[kind] + " trouble 1 knows 2 holds 3;");
            Check.due("5: kind " + kinds[kind], x.caller(0, 0), kind);
        }
        String[] others = {"plains", "sh", "held", "and", "takes", "trouble", "1", ";"};
        for (String other : others) {
            faultOf("caller a " + other + " trouble 1 knows 2 holds 3;", Check.fault(1, 9));
        }
    }

    private static void troubleZeroToNine() {
        for (int trouble = 0; trouble <= 9; trouble++) {
            HeldMusic x = Check.opened("caller a shy trouble " + trouble + " knows 2 holds 3;");
            Check.due("5: trouble", x.caller(0, 1), trouble);
        }
        faultOf("caller a shy trouble 10 knows 2 holds 3;", Check.fault(4, 21));
        faultOf("caller a shy trouble 9999 knows 2 holds 3;", Check.fault(4, 21));
        faultOf("caller a shy trouble -1 knows 2 holds 3;", Check.fault(1, 21));
        faultOf("caller a shy trouble knows 2 holds 3;", Check.fault(1, 21));
    }

    private static void oneToSixAnswers() {
        String ahead = "caller a shy trouble 1 knows";
        faultOf(ahead + " holds 3;", Check.fault(1, 29));
        StringBuilder answers = new StringBuilder();
        for (int many = 1; many <= 6; many++) {
            answers.append(' ').append(many);
            HeldMusic x = Check.opened(ahead + answers + " holds 3;");
            Check.due("5: answers", x.caller(0, 3), (1 << many + 1) - 2);
            Check.due("36: answers", x.count(6), many);
        }
        faultOf(ahead + answers + " 7 holds 3;", Check.fault(5, 41));
        faultOf(ahead + answers + " 0 9 holds 3;", Check.fault(5, 41));
    }

    private static void answersZeroToNine() {
        for (int answer = 0; answer <= 9; answer++) {
            HeldMusic x = Check.opened("caller a shy trouble 1 knows " + answer + " holds 3;");
            Check.due("5: answers", x.caller(0, 3), 1 << answer);
        }
        faultOf("caller a shy trouble 1 knows 10 holds 3;", Check.fault(4, 29));
        faultOf("caller a shy trouble 1 knows 9 10 holds 3;", Check.fault(4, 31));
        faultOf("caller a shy trouble 1 knows 9999 holds 3;", Check.fault(4, 29));
        // A shift by 32 comes round to the first answer.
        faultOf("caller a shy trouble 1 knows 32 holds 3;", Check.fault(4, 29));
    }

    private static void eachAnswerOnce() {
        faultOf("caller a shy trouble 1 knows 2 2 holds 3;", Check.fault(3, 31));
        faultOf("caller a shy trouble 1 knows 2 02 holds 3;", Check.fault(3, 31));
        faultOf("caller a shy trouble 1 knows 0 1 0 holds 3;", Check.fault(3, 33));
        faultOf("caller a shy trouble 1 knows 9 8 7 6 5 9 holds 3;", Check.fault(3, 39));
        // The next caller may have the same ones, and one may know the answer to his own trouble.
        faultOf("caller a shy trouble 1 knows 1 2 holds 3;caller b shy trouble 1 knows 1 2 holds 3;", 0);
    }

    private static void holdsOneToThirty() {
        int[] fine = {1, 2, 29, 30};
        for (int holds : fine) {
            HeldMusic x = Check.opened("caller a shy trouble 1 knows 2 holds " + holds + ";");
            Check.due("5: holds", x.caller(0, 2), holds);
        }
        faultOf("caller a shy trouble 1 knows 2 holds 0;", Check.fault(4, 37));
        faultOf("caller a shy trouble 1 knows 2 holds 31;", Check.fault(4, 37));
        faultOf("caller a shy trouble 1 knows 2 holds 9999;", Check.fault(4, 37));
        faultOf("caller a shy trouble 1 knows 2 holds;", Check.fault(1, 36));
    }

    private static void takesOneToTwenty() {
        int[] fine = {1, 2, 19, 20};
        for (int takes : fine) {
            Check.due("36: takes", Check.opened("takes " + takes + ";").count(1), takes);
        }
        faultOf("takes 0;", Check.fault(4, 6));
        faultOf("takes 21;", Check.fault(4, 6));
        faultOf("takes 9999;", Check.fault(4, 6));
        faultOf("takes -1;", Check.fault(1, 6));
    }

    private static void takesFiveWithoutIt() {
        HeldMusic x = Check.opened("takes 20;");
        Check.due("36: takes", x.count(1), 20);
        Check.due("3: an office without it", Check.office(x, caller("a")), 0);
        Check.due("36: takes 5", x.count(1), 5);
        Check.due("3: a wrong one with it", Check.office(x, "takes 3;?"), Check.fault(1, 8));
        Check.due("36: takes 5 still", x.count(1), 5);
        Check.due("3: without it again", Check.office(x, caller("a")), 0);
        Check.due("36: takes 5 again", x.count(1), 5);
    }

    private static void takesOnce() {
        faultOf("takes 1;takes 1;", Check.fault(3, 8));
        faultOf("takes 1;" + callers(1) + "believes 1; takes", Check.fault(3, 8 + callers(1).length() + 12));
        faultOf("takes 1;takes 21;", Check.fault(3, 8));
    }

    private static void believesOnce() {
        faultOf("believes 1;believes 1;", Check.fault(3, 11));
        faultOf("believes 1;takes 1;" + callers(1) + "believes", Check.fault(3, 19 + callers(1).length()));
        faultOf("believes 1;believes ?;", Check.fault(3, 11));
    }

    private static void onceIsForOneOffice() {
        HeldMusic x = Check.opened("takes 1;believes 1;" + callers(6));
        Check.due("3: again in the next", Check.office(x, "takes 2;believes 1;" + callers(6)), 0);
        Check.due("3: with a fault", Check.office(x, "takes 3;believes 1;" + callers(6) + "?"),
            Check.fault(1, 19 + callers(6).length()));
        Check.due("3: again behind a fault", Check.office(x, "takes 4;believes 1;" + callers(6)), 0);
        Check.due("36: takes", x.count(1), 4);
    }

    private static void wordsThatAreNoNames() {
        for (String word : NO_NAMES) {
            faultOf(caller(word), Check.fault(1, 7));
            HeldMusic x = Check.opened(caller("a"));
            Check.due("4: ring " + word, Check.day(x, "ring " + word + ";"), Check.fault(1, 5));
            Check.due("4: swap a " + word, Check.day(x, "swap a " + word + ";"), Check.fault(1, 7));
        }
        faultOf(caller("1"), Check.fault(1, 7));
        faultOf(caller(";"), Check.fault(1, 7));
        faultOf(caller("A"), Check.fault(1, 7));
    }

    private static void wordsThatAreNames() {
        for (String word : NO_NAMES) {
            // One letter more or less makes another word of it.
            if (word.length() < 8) {
                faultOf(caller(word + "s"), 0);
            }
            String shorter = word.substring(0, word.length() - 1);
            faultOf(caller(shorter), 0);
        }
        String[] facts = {"held", "met", "own", "theirs", "e", "office", "day", "name"};
        for (String word : facts) {
            HeldMusic x = Check.opened(caller(word) + "believes held;");
            Check.due("4: ring " + word, Check.day(x, "ring " + word + ";"), 0);
        }
    }

    private static void noTwoAreAlike() {
        faultOf(caller("a") + "caller a", Check.fault(3, caller("a").length() + 7));
        faultOf(callers(5) + "caller a", Check.fault(3, callers(5).length() + 7));
        faultOf(callers(5) + "caller e", Check.fault(3, callers(5).length() + 7));
        faultOf(caller("abcdefgh") + caller("abcdefgh"), Check.fault(3, caller("abcdefgh").length() + 7));
        // The office ahead has no say in it.
        HeldMusic x = Check.opened(callers(6));
        Check.due("3: the same names anew", Check.office(x, callers(6)), 0);
        Check.due("3: a fault behind two", Check.office(x, callers(2) + "?"), Check.fault(1, callers(2).length()));
        Check.due("3: the same names behind a fault", Check.office(x, callers(2)), 0);
    }

    private static void namesAlmostAlike() {
        String[][] pairs = {{"a", "aa"}, {"ab", "ba"}, {"abcdefgh", "bbcdefgh"}, {"abcdefgh", "abcdefgi"},
            {"abcdefgh", "bcdefgh"}, {"abcdefgh", "abcdefg"}, {"aaaa", "aaaaa"}, {"abcdefgh", "efgh"}};
        for (String[] pair : pairs) {
            HeldMusic x = Check.opened(caller(pair[0]) + caller(pair[1]));
            String swap = "swap " + pair[0] + " " + pair[1] + ";";
            Check.due("4: " + swap, Check.day(x, swap), 0);
        }
    }

    /** An object with something everywhere that an office begins anew. */
    private static HeldMusic full() {
        HeldMusic x = Check.opened("takes 2;caller a plain trouble 1 knows 2 holds 9;caller b plain trouble 2 knows 1 holds 9;"
            + "caller c plain trouble 9 knows 3 holds 9;caller d plain trouble 8 knows 4 holds 9;believes 1;");
        Check.due("4: a day", Check.day(x, "ring a;ring b;minute;"), 0);
        x.ring(0);
        x.ring(1);
        x.minute();
        x.ring(2);
        x.ring(3);
        x.minute();
        x.tell(0, true);
        x.tell(1, false);
        for (int mark = 0; mark < 4; mark++) {
            x.mark(mark, false);
        }
        int[] want = {4, 2, 2, 1, 8, 7, 9, 4, 3, 2, 6, 0};
        for (int what = 0; what < want.length; what++) {
            Check.due("3: ahead of it, count " + what, x.count(what), want[what]);
        }
        return x;
    }

    private static void allIsNewBehindAnOffice() {
        HeldMusic x = full();
        Check.due("3: an office", Check.office(x, "caller a plain trouble 1 knows 2 holds 9;caller b plain trouble 2 knows 1 holds 9;"
            + "caller c plain trouble 9 knows 3 holds 9;caller d plain trouble 8 knows 4 holds 9;takes 2;"), 0);
        int[] want = {4, 2, 0, 0, 0, 0, 4, 0, 0, 0, 0, 0};
        for (int what = 0; what < want.length; what++) {
            Check.due("3: behind it, count " + what, x.count(what), want[what]);
        }
        for (int who = 0; who < 4; who++) {
            Check.due("3: answers as told", x.caller(who, 3), 1 << new int[] {2, 1, 3, 4}[who]);
            Check.due("3: nobody settled", x.caller(who, 4), 0);
            Check.due("3: no place", x.caller(who, 5), -1);
            Check.due("3: held nothing", x.caller(who, 6), 0);
            for (int other = 0; other < 4; other++) {
                Check.due("3: nobody put through", x.met(who, other), who == other ? -1 : 0);
            }
            Check.due("3: no mark", x.mark(who, true), false);
        }
        Check.due("3: nothing can be undone", x.undo(), false);
        Check.due("3: no day", x.judged(2), 0);
        Check.due("3: nothing told", x.sets(0), 16);
        Check.due("3: a settled one rings", x.ring(0), 0);
        // Told and marked anew, with nothing of the elder.
        x.tell(2, true);
        Check.due("3: told one", x.count(9), 1);
    }

    private static void fewerCallersThanBefore() {
        HeldMusic x = Check.opened(callers(6));
        for (int who = 0; who < 6; who++) {
            x.ring(who);
            x.tell(who, true);
        }
        x.minute();
        Check.due("3: two", Check.office(x, callers(2)), 0);
        Check.due("5: the third is none", x.caller(2, 3), -2);
        Check.due("6: nobody to meet", x.met(0, 2), -1);
        Check.due("8: he can't ring", x.ring(2), -1);
        Check.due("22: he has nothing", x.holders(2), 3);
        Check.due("36: two have two", x.count(6), 2);
        Check.due("29: sets of two", x.sets(0), 4);
        Check.due("19: two ring", x.order(2), -2);
        Check.due("28: nobody to tell of", x.tell(2, true), false);
        Check.due("4: nobody named so", Check.day(x, "ring c;"), Check.fault(2, 5));
    }

    private static void theLawIsNewBehindAnOffice() {
        String two = "caller a plain trouble 9 knows 1 holds 3;caller b plain trouble 9 knows 2 holds 3;";
        HeldMusic x = Check.opened(two + "believes 0;");
        Check.due("23: by the law", x.hears(0, 1), 0);
        Check.due("3: a wrong one with another law", Check.office(x, two + "believes 1;?"), Check.fault(1, two.length() + 11));
        Check.due("23: by the elder law", x.hears(0, 1), 0);
        Check.due("3: without a law", Check.office(x, two), 0);
        Check.due("23: without believes: 1", x.hears(0, 1), 4);
        Check.due("3: a wrong one with a law", Check.office(x, "believes 0;" + two + ";"), Check.fault(1, two.length() + 11));
        Check.due("23: still without", x.hears(0, 1), 4);
    }

    private static void manyLawsOneBehindAnother() {
        String two = "caller a plain trouble 9 knows 1 holds 3;caller b plain trouble 9 knows 2 holds 3;";
        HeldMusic x = new HeldMusic();
        String[] laws = {"believes 0;", "believes 0;", "", "believes 0;", "believes 0;", "believes 1;", "believes 1;", "",
            "believes 1;", "believes 0;", "", ""};
        for (String law : laws) {
            Check.due("3: office with '" + law + "'", Check.office(x, two + law), 0);
            Check.due("23: by '" + law + "'", x.hears(0, 1), law.equals("believes 0;") ? 0 : 4);
        }
        // A law told only in an office with a fault is never one.
        Check.due("3: a fault", Check.office(x, "believes 0;?"), Check.fault(1, 11));
        Check.due("3: once more", Check.office(x, "believes 0;?"), Check.fault(1, 11));
        Check.due("3: an office", Check.office(x, two), 0);
        Check.due("23: without believes: 1", x.hears(0, 1), 4);
    }

    private static void allStaysBehindAFault() {
        String[] wrong = {"?", "takes 9;caller z shy trouble 1 knows 2 holds 3;takes", "believes 0;caller z shy trouble 1",
            callers(6) + "caller", "believes 0", "caller a shy trouble 1 knows 2 holds 3", "takes 21;"};
        for (String text : wrong) {
            HeldMusic x = full();
            String before = Seen.of(x);
            Check.due("3: a fault of '" + text + "'", Check.office(x, text) != 0, true);
            Seen.same("3: all stays behind '" + text + "'", Seen.of(x), before);
            Check.due("3: the marks too", x.mark(3, true), true);
            Check.due("3: the names too", Check.day(x, "swap c d;"), 0);
        }
        HeldMusic x = full();
        Check.office(x, "?");
        Check.due("3: what can be undone too", x.undo(), true);
        Check.due("3: as before the minute", x.count(4), 12);
    }

    private static void anOfficeBehindAFault() {
        HeldMusic x = full();
        Check.due("3: a fault", Check.office(x, callers(6) + "takes 7;believes 0;?"), Check.fault(1, callers(6).length() + 19));
        Check.due("3: none", Check.office(x, callers(1)), 0);
        Check.due("36: one caller", x.count(0), 1);
        Check.due("36: takes 5", x.count(1), 5);
        Check.due("36: his answers alone", x.count(6), 1);
    }
}
