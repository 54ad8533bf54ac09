/** Promises 1 to 4: a new object, the tape, the office and the day as read, and their faults. */
public final class ReadingTest {
    private static final String ANN = "caller ann plain trouble 1 knows 2 holds 9;";

    public static void main(String[] args) {
        newObject();
        tape();
        tokens();
        offices();
        officeFaults();
        lawFaults();
        dayFaults();
        faultsLeaveAll();
        officeBeginsAnew();
        Check.end("ReadingTest");
    }

    private static void newObject() {
        HeldMusic x = new HeldMusic();
        int[] want = {0, 5, 0, 0, 0, 0, 0, 0, 0, 0, 0, 0, -1};
        for (int what = 0; what < want.length; what++) {
            Check.due("new: count(" + what + ")", x.count(what), want[what]);
        }
        Check.due("new: undo", x.undo(), false);
        Check.due("new: mark back", x.mark(0, true), false);
        Check.due("new: minute", x.minute(), 0);
    }

    private static void tape() {
        HeldMusic x = new HeldMusic();
        Check.due("none of the bytes is a sign", x.feed(0L, -1L, 0x1f7f800001090bffL), 0);
        Check.due("the edges of the signs", x.feed(0x0a207e0000000000L, 0L, 0L), 3);
        x = new HeldMusic();
        // The highest byte comes first, and a comes before b before c.
        x.feed(0x74616b657320L, 0x31L, 0x303bL);
        Check.due("takes 10;", x.office(), 0);
        Check.due("takes 10; takes", x.count(1), 10);
        Check.due("the tape was taken", x.count(11), 0);
        int there = 0;
        for (int i = 0; i < 41; i++) {
            there = x.feed(0x2020202020202020L, 0x2020202020202020L, 0x2020202020202020L);
        }
        Check.due("41 feeds", there, 984);
        Check.due("the 42nd feed, cut", x.feed(0x2020202020202020L, 0x2020202020202020L, 0x3b20202020202020L), 1000);
        Check.due("beyond", x.feed(0x20L, 0x20L, 0x20L), 1000);
        Check.due("on the tape", x.count(11), 1000);
        Check.due("blanks alone are an office", x.office(), 0);
        Check.due("takes is as at first again", x.count(1), 5);
    }

    private static void faultOf(String text, int kind, int place) {
        HeldMusic x = new HeldMusic();
        int want = kind == 0 ? 0 : Check.fault(kind, place);
        Check.due("office of '" + text + "'", Check.office(x, text), want);
        Check.due("tape behind '" + text + "'", x.count(11), 0);
    }

    private static void tokens() {
        faultOf("caller a plain trouble1knows2holds9;takes7;", 0, 0);
        faultOf("caller\na\nplain\ntrouble 0001\nknows 0002\nholds 0009\n;\n", 0, 0);
        faultOf("callera plain", 1, 0);
        faultOf("caller abcdefgh plain trouble 1 knows 2 holds 9;", 0, 0);
        faultOf("caller abcdefghi plain trouble 1 knows 2 holds 9;", 1, 7);
        faultOf("takes 00005;", 1, 6);
        faultOf("takes 0005;", 0, 0);
        faultOf("takes 5", 1, 7);
        faultOf("takes 5  ", 1, 9);
        faultOf("takes 5;  ?", 1, 10);
        faultOf("Takes 5;", 1, 0);
        faultOf("takes 5,", 1, 7);
        faultOf("caller a1 plain", 1, 8);
        faultOf("takes -5;", 1, 6);
    }

    private static void offices() {
        HeldMusic x = Check.opened("takes 20; believes 1 ; " + ANN
            + "caller held shy trouble 0 knows 0 1 2 3 4 5 holds 1;caller met gossip trouble 9 knows 9 holds 30;"
            + "caller own deaf trouble 5 knows 6 holds 2;caller theirs plain trouble 5 knows 6 holds 2;"
            + "caller zz plain trouble 5 knows 6 holds 2;");
        Check.due("callers", x.count(0), 6);
        Check.due("takes", x.count(1), 20);
        Check.due("kind shy", x.caller(1, 0), 1);
        Check.due("kind gossip", x.caller(2, 0), 2);
        Check.due("kind deaf", x.caller(3, 0), 3);
        Check.due("trouble", x.caller(2, 1), 9);
        Check.due("holds", x.caller(2, 2), 30);
        Check.due("knows", x.caller(1, 3), 63);
        Check.due("answers", x.count(6), 11);
        Check.due("no text is an office", new HeldMusic().office(), 0);
    }

    private static void officeFaults() {
        faultOf(";", 1, 0);
        faultOf("5;", 1, 0);
        faultOf("caller", 1, 6);
        faultOf("ring ann;", 1, 0);
        String[] words = {"caller", "trouble", "knows", "holds", "takes", "believes", "ring", "off", "swap",
            "minute", "plain", "shy", "gossip", "deaf", "not", "and", "or"};
        for (String word : words) {
            faultOf("caller " + word + " plain trouble 1 knows 2 holds 9;", 1, 7);
        }
        faultOf(ANN + "caller ann shy", 3, 50);
        faultOf("caller a held trouble 1", 1, 9);
        faultOf("caller a shy trouble x", 1, 21);
        faultOf("caller a shy trouble 10 knows 1", 4, 21);
        faultOf("caller a shy trouble 1 holds 1", 1, 23);
        faultOf("caller a shy trouble 1 knows holds 1", 1, 29);
        faultOf("caller a shy trouble 1 knows 10 holds 1", 4, 29);
        faultOf("caller a shy trouble 1 knows 1 2 1 holds 1", 3, 33);
        faultOf("caller a shy trouble 1 knows 1 2 3 4 5 6 7 holds 1", 5, 41);
        faultOf("caller a shy trouble 1 knows 1 2 3 4 5 6 6 holds 1", 3, 41);
        faultOf("caller a shy trouble 1 knows 1 2 3 4 5 6 10 holds 1", 4, 41);
        faultOf("caller a shy trouble 1 knows 1 2 3 4 5 6 ; holds 1", 1, 41);
        faultOf("caller a shy trouble 1 knows 1 holds 0;", 4, 37);
        faultOf("caller a shy trouble 1 knows 1 holds 30", 1, 39);
        faultOf("caller a shy trouble 1 knows 1 holds 30 30;", 1, 40);
        faultOf("takes 0;", 4, 6);
        faultOf("takes 21;", 4, 6);
        faultOf("takes 9999;", 4, 6);
        faultOf("takes;", 1, 5);
        faultOf("takes 1;takes 1;", 3, 8);
        faultOf("believes 1;believes", 3, 11);
        StringBuilder seven = new StringBuilder();
        for (int i = 0; i < 6; i++) {
            seven.append("caller ").append((char) ('a' + i)).append(" shy trouble 1 knows 1 holds 1;");
        }
        faultOf(seven.toString(), 0, 0);
        faultOf(seven + "caller", 5, seven.length());
        faultOf(seven + "takes 1;", 0, 0);
    }

    private static void lawFaults() {
        faultOf("believes held;", 0, 0);
        faultOf("believes held<met=own;", 1, 17);
        faultOf("believes held<met and own=theirs or 1+2*3-4;", 0, 0);
        faultOf("believes (held<met)<own;", 0, 0);
        faultOf("believes ;", 1, 9);
        faultOf("believes ann;", 1, 9);
        faultOf("believes holds;", 1, 9);
        faultOf("believes 1 2;", 1, 11);
        faultOf("believes 1 not 2;", 1, 11);
        faultOf("believes -1;", 1, 9);
        faultOf("believes 1+;", 1, 11);
        faultOf("believes (1;", 1, 11);
        faultOf("believes 1);", 1, 10);
        faultOf("believes ();", 1, 10);
        faultOf("believes 1 and;", 1, 14);
        faultOf("believes 1 and or 1;", 1, 15);
        faultOf("believes 12345;", 1, 9);
        faultOf("believes 9999", 1, 13);
        faultOf("believes ((((1))));", 0, 0);
        faultOf("believes (((((1)))));", 5, 14);
        faultOf("believes ((((((1", 5, 14);
        faultOf("believes (((((not 1", 5, 14);
        faultOf("believes ((((());", 1, 14);
        faultOf("believes (((((", 1, 14);
        faultOf("believes (((((holds", 1, 14);
        faultOf("believes not not not not 1;", 0, 0);
        faultOf("believes not not not not not 1;", 5, 29);
        faultOf("believes not not not not not not 1;", 5, 29);
        faultOf("believes not(not(1))+not not(held);", 0, 0);
        faultOf("believes not(not(not 1));", 5, 21);
        faultOf("believes not(not(1)+not 1);", 0, 0);
        faultOf("believes (((1)))+((((1))))*not not not 1;", 0, 0);
    }


    private static void dayFault(String text, int kind, int place) {
        HeldMusic x = Check.opened(ANN + "caller bob shy trouble 2 knows 1 holds 4;");
        int want = kind == 0 ? 0 : Check.fault(kind, place);
        Check.due("day of '" + text + "'", Check.day(x, text), want);
        Check.due("tape behind '" + text + "'", x.count(11), 0);
    }

    private static void dayFaults() {
        dayFault("", 0, 0);
        dayFault("ring ann;off bob;swap bob ann;minute;", 0, 0);
        dayFault("ring cy;", 2, 5);
        dayFault("off cy;", 2, 4);
        dayFault("swap cy cy;", 2, 5);
        dayFault("swap ann cy;", 2, 9);
        dayFault("swap ann ann;", 3, 9);
        dayFault("swap ann minute;", 1, 9);
        dayFault("swap ann;", 1, 8);
        dayFault("ring not;", 1, 5);
        dayFault("ring 1;", 1, 5);
        dayFault("ring held;", 2, 5);
        dayFault("ring", 1, 4);
        dayFault("ring ann bob;", 1, 9);
        dayFault("minute ann;", 1, 7);
        dayFault("takes 5;", 1, 0);
        dayFault(";", 1, 0);
        dayFault("minute; ;", 1, 8);
        String forty = "minute;".repeat(40);
        dayFault(forty, 0, 0);
        dayFault(forty + "ring cy;", 5, 280);
        dayFault(forty + "minute;", 5, 280);
        dayFault(forty + "rings", 1, 280);
        dayFault(forty + "   ", 0, 0);
    }

    private static void faultsLeaveAll() {
        HeldMusic x = Check.opened(ANN + "takes 7;");
        Check.due("day", Check.day(x, "ring ann;minute;"), 0);
        Check.due("ring", x.ring(0), 0);
        Check.due("tell", x.tell(0, true), true);
        Check.due("mark", x.mark(2, false), true);
        Check.due("a wrong office", Check.office(x, "takes 3;caller b plain trouble 1 knows 2 holds 9;;"), Check.fault(1, 49));
        Check.due("a wrong day", Check.day(x, "minute;minute;minute"), Check.fault(1, 20));
        int[] want = {1, 7, 0, 1, 1, 0, 1, 0, 2, 1, 1, 0};
        for (int what = 0; what < want.length; what++) {
            Check.due("behind faults: count(" + what + ")", x.count(what), want[what]);
        }
        Check.due("behind faults: trouble", x.caller(0, 1), 1);
        Check.due("behind faults: mark", x.mark(2, true), true);
        Check.due("a new day", Check.day(x, "minute;"), 0);
        Check.due("its lines", x.count(8), 1);
        Check.due("on the line still", x.count(3), 1);
    }

    private static void officeBeginsAnew() {
        HeldMusic x = Check.opened(ANN + "takes 1;");
        Check.due("day", Check.day(x, "ring ann;minute;"), 0);
        x.ring(0);
        x.minute();
        x.tell(0, true);
        x.mark(0, false);
        Check.due("settled", x.count(5), 1);
        Check.due("office", Check.office(x, ANN), 0);
        int[] want = {1, 5, 0, 0, 0, 0, 1, 0, 0, 0, 0, 0};
        for (int what = 0; what < want.length; what++) {
            Check.due("anew: count(" + what + ")", x.count(what), want[what]);
        }
        Check.due("anew: mark", x.mark(0, true), false);
        Check.due("anew: undo", x.undo(), false);
        Check.due("anew: answers", x.caller(0, 3), 4);
    }
}
