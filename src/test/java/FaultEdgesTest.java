import java.util.ArrayList;
import java.util.List;

/** The edges of FAULTS: their kinds, their places, the end of the text, the first from the left, the least. */
public final class FaultEdgesTest {
    private static final String[] OFFICE = {"caller", "ann", "plain", "trouble", "1", "knows", "2", "3", "holds", "9", ";",
        "takes", "4", ";", "believes", "not", "(", "held", "+", "1", "*", "2", "-", "met", ")", "<", "own", "and", "theirs",
        "=", "3", "or", "0", ";", "caller", "bob", "deaf", "trouble", "0", "knows", "9", "holds", "30", ";"};
    private static final String[] DAY = {"ring", "ann", ";", "off", "bob", ";", "swap", "ann", "bob", ";", "minute", ";",
        "minute", ";"};
    private static final String TWO = "caller ann plain trouble 1 knows 2 holds 9;caller bob deaf trouble 0 knows 9 holds 30;";

    public static void main(String[] args) {
        theEndOfTheText();
        theEndBehindBlanks();
        theEndOfAFullTape();
        whatIsNoneStandsNowhere();
        whatCantStandThere();
        theFirstPlace();
        placesWithBlanksAndLineEnds();
        aNameOfNoCaller();
        namesOfTheOfficeThatIs();
        aNameToldAlready();
        anAnswerThatStandsThere();
        theSecondOfSwapThatIsTheFirst();
        numbersNotAsTold();
        oneTooMany();
        theFirstFromTheLeft();
        theLeastOfOneToken();
        Check.end("FaultEdgesTest");
    }

    private static void office(String text, int want) {
        Check.due("3: office of '" + text + "'", Check.office(new HeldMusic(), text), want);
    }

    private static void day(String text, int want) {
        Check.due("4: day of '" + text + "'", Check.day(Check.opened(TWO), text), want);
    }

    private static void read(boolean isDay, String text, int want) {
        if (isDay) {
            day(text, want);
        } else {
            office(text, want);
        }
    }

    private static String joined(String[] tokens, int from, int to, String blank) {
        StringBuilder all = new StringBuilder();
        for (int i = from; i < to; i++) {
            all.append(tokens[i]).append(blank);
        }
        return all.toString();
    }

    /** Every beginning of a text: without a fault behind a line's end, else its end is wrong. */
    private static void beginnings(boolean isDay, String[] tokens, String blank, String behind) {
        for (int many = 0; many <= tokens.length; many++) {
            String text = joined(tokens, 0, many, blank).stripTrailing() + behind;
            boolean whole = many == 0 || tokens[many - 1].equals(";");
            read(isDay, text, whole ? 0 : Check.fault(1, text.length()));
        }
    }

    private static void theEndOfTheText() {
        beginnings(false, OFFICE, " ", "");
        beginnings(true, DAY, " ", "");
    }

    private static void theEndBehindBlanks() {
        beginnings(false, OFFICE, "\n", " ");
        beginnings(false, OFFICE, " ", "\n \n");
        beginnings(true, DAY, "  ", "\n");
    }

    private static void theEndOfAFullTape() {
        office("takes" + " ".repeat(995), Check.fault(1, 1000));
        office("takes" + " ".repeat(994), Check.fault(1, 999));
        day("minute" + " ".repeat(994), Check.fault(1, 1000));
        day("ring" + " ".repeat(993) + "ann", Check.fault(1, 1000));
        day("ring" + " ".repeat(993) + "cyd", Check.fault(2, 997));
        office(" ".repeat(999) + ";", Check.fault(1, 999));
    }

    private static void instead(boolean isDay, String[] tokens, int at, String other, int kind) {
        String ahead = joined(tokens, 0, at, " ");
        String behind = joined(tokens, at + 1, tokens.length, " ");
        read(isDay, ahead + other + " " + behind, Check.fault(kind, ahead.length()));
    }

    private static void whatIsNoneStandsNowhere() {
        String[] none = {"?", "A", "abcdefghi", "12345", ",", "!="};
        for (String other : none) {
            for (int at = 0; at < OFFICE.length; at++) {
                instead(false, OFFICE, at, other, 1);
            }
            for (int at = 0; at < DAY.length; at++) {
                instead(true, DAY, at, other, 1);
            }
        }
    }

    private static void whatCantStandThere() {
        // A token in place of another sort's one.
        String[] words = {"minute", "swap", "trouble", "holds"};
        for (int at = 0; at < OFFICE.length; at++) {
            for (String word : words) {
                if (!OFFICE[at].equals(word) && !behindKnows(at, word)) {
                    instead(false, OFFICE, at, word, 1);
                }
            }
        }
        for (int at = 0; at < DAY.length; at++) {
            instead(true, DAY, at, "7", 1);
            instead(true, DAY, at, "caller", 1);
            instead(true, DAY, at, "(", 1);
        }
    }

    /** Behind one answer the word holds may stand where another one stood. */
    private static boolean behindKnows(int at, String word) {
        return word.equals("holds") && OFFICE[at].equals("3") && OFFICE[at - 1].equals("2");
    }

    private static void theFirstPlace() {
        office("?", Check.fault(1, 0));
        office(";", 1);
        office("1", 1);
        day("?", 1);
        day("ann", 1);
        day("takes 1;", 1);
        office("minute;", 1);
    }

    private static void placesWithBlanksAndLineEnds() {
        office("\n\n?", Check.fault(1, 2));
        office("takes 1;\n takes 1;", Check.fault(3, 10));
        office("takes\n\n21;", Check.fault(4, 7));
        day(" ring \n cy;", Check.fault(2, 8));
        day("\nswap\nann\nann;", Check.fault(3, 10));
    }

    private static void aNameOfNoCaller() {
        day("ring cy;", Check.fault(2, 5));
        day("off cy;", Check.fault(2, 4));
        day("swap cy ann;", Check.fault(2, 5));
        day("swap ann cy;", Check.fault(2, 9));
        day("ring an;", Check.fault(2, 5));
        day("ring annn;", Check.fault(2, 5));
        day("ring held;", Check.fault(2, 5));
        day("ring cy", Check.fault(2, 5));
        day("minute cy;", Check.fault(1, 7));
        day("ring ann cy;", Check.fault(1, 9));
    }

    private static void namesOfTheOfficeThatIs() {
        HeldMusic x = new HeldMusic();
        Check.due("4: no office yet", Check.day(x, "ring ann;"), Check.fault(2, 5));
        Check.office(x, TWO);
        Check.due("4: hers", Check.day(x, "ring ann;"), 0);
        Check.office(x, "caller cy shy trouble 1 knows 2 holds 3;?");
        Check.due("4: of an office with a fault", Check.day(x, "ring cy;"), Check.fault(2, 5));
        Check.due("4: hers still", Check.day(x, "ring ann;"), 0);
        Check.office(x, "caller cy shy trouble 1 knows 2 holds 3;");
        Check.due("4: hers no more", Check.day(x, "ring ann;"), Check.fault(2, 5));
        Check.due("4: his now", Check.day(x, "ring cy;"), 0);
    }

    private static void aNameToldAlready() {
        office(TWO + "caller ann", Check.fault(3, TWO.length() + 7));
        office(TWO + "caller bob ?", Check.fault(3, TWO.length() + 7));
        office(TWO + "caller bobb", Check.fault(1, TWO.length() + 11));
        office(TWO + "takes 1;takes", Check.fault(3, TWO.length() + 8));
        office(TWO + "believes 1;believes", Check.fault(3, TWO.length() + 11));
        // In a day a caller may be named as often as one likes.
        day("ring ann;ring ann;off ann;off ann;swap ann bob;swap ann bob;", 0);
    }

    private static void anAnswerThatStandsThere() {
        String ahead = "caller cy shy trouble 1 knows ";
        office(ahead + "1 1", Check.fault(3, 32));
        office(ahead + "0 0", Check.fault(3, 32));
        office(ahead + "1 2 3 4 5 1", Check.fault(3, 40));
        office(ahead + "1 2 3 4 5 6 holds 3;", 0);
        // The answer to his own trouble is none that stands there.
        office(ahead + "1 holds 1;", 0);
        office(ahead + "2 holds 2;", 0);
    }

    private static void theSecondOfSwapThatIsTheFirst() {
        day("swap ann ann;", Check.fault(3, 9));
        day("swap bob bob", Check.fault(3, 9));
        day("swap ann bob;swap bob ann;", 0);
        day("swap cy cy;", Check.fault(2, 5));
    }

    private static void numbersNotAsTold() {
        office("caller cy shy trouble 10", Check.fault(4, 22));
        office("caller cy shy trouble 1 knows 10", Check.fault(4, 30));
        office("caller cy shy trouble 1 knows 1 2 3 10", Check.fault(4, 36));
        office("caller cy shy trouble 1 knows 1 holds 0", Check.fault(4, 38));
        office("caller cy shy trouble 1 knows 1 holds 31", Check.fault(4, 38));
        office("takes 0", Check.fault(4, 6));
        office("takes 21", Check.fault(4, 6));
        office("takes 0000;", Check.fault(4, 6));
    }

    private static void oneTooMany() {
        String six = "";
        for (char name = 'a'; name <= 'f'; name++) {
            six += "caller " + name + " shy trouble 1 knows 1 holds 1;";
        }
        office(six + "caller", Check.fault(5, six.length()));
        office(six + "caller a", Check.fault(5, six.length()));
        office(six + "caller ?", Check.fault(5, six.length()));
        office("caller cy shy trouble 1 knows 1 2 3 4 5 6 7", Check.fault(5, 42));
        String forty = "minute;".repeat(40);
        String[] words = {"ring ann;", "off cy;", "swap ann ann;", "minute;", "minute", "ring"};
        for (String word : words) {
            day(forty + word, Check.fault(5, 280));
            day(forty + "  \n" + word, Check.fault(5, 283));
        }
        office("believes (((((1", Check.fault(5, 14));
        office("believes (((((not", Check.fault(5, 14));
    }

    private static void theFirstFromTheLeft() {
        // A lesser kind further to the right does not count.
        office("takes 21;?", Check.fault(4, 6));
        office("takes 21?", Check.fault(4, 6));
        office("believes 1;believes ?", Check.fault(3, 11));
        office("caller cy shy trouble 10 knows 10 10 holds 31;", Check.fault(4, 22));
        office("believes (((((1?", Check.fault(5, 14));
        day("ring cy?", Check.fault(2, 5));
        day("ring ann;swap ann ann?", Check.fault(3, 18));
        day("minute;".repeat(40) + "minute ?", Check.fault(5, 280));
        day("ring ann ring cy;", Check.fault(1, 9));
    }

    private static void theLeastOfOneToken() {
        String six = "caller cy shy trouble 1 knows 1 2 3 4 5 6 ";
        office(six + "7", Check.fault(5, 42));
        office(six + "6", Check.fault(3, 42));
        office(six + "1", Check.fault(3, 42));
        office(six + "10", Check.fault(4, 42));
        office(six + "9999", Check.fault(4, 42));
        office(six + "12345", Check.fault(1, 42));
        office(six + "?", Check.fault(1, 42));
        office(six, Check.fault(1, 42));
        String forty = "minute;".repeat(40);
        List<String> others = new ArrayList<>(List.of("?", "ann", "cy", "takes", "minutes", "1", ";", "12345", "abcdefghi"));
        for (String other : others) {
            day(forty + other, Check.fault(1, 280));
        }
        day(forty, 0);
        day(forty + " \n", 0);
        day("swap cy cy;", Check.fault(2, 5));
        day("swap ann abcdefghi;", Check.fault(1, 9));
    }
}
