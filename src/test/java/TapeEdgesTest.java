/** The edges of the TAPE and of TOKENS: promise 2, and what the terms say of them; a method for each sentence. */
public final class TapeEdgesTest {
    private static final long BLANKS = 0x2020202020202020L;
    private static final String SIGNS = "()<=+-*;";

    public static void main(String[] args) {
        everyByteIsASignOrLeftOut();
        upToTwentyFourSigns();
        theHighestByteFirstAndAThenBThenC();
        whatIsLeftOutLeavesNoGap();
        aThousandSigns();
        beyondAThousandWithinOneCall();
        theThousandthSignIsReadTheNextIsNot();
        aFullTapeIsFedAnewWhenRead();
        whatReadsItTakesIt();
        nothingOnTheTape();
        wordsOfEightLetters();
        numbersOfFourDigits();
        tokensAsLongAsCanBe();
        aLetterRightBehindANumber();
        blanksWhereOneLikes();
        blanksPartTokens();
        everySignThatIsNone();
        numbersAreNoSigns();
        longerOnesAtTheirFirstSign();
        Check.end("TapeEdgesTest");
    }

    private static boolean isSign(int b) {
        return b == 10 || b >= 32 && b <= 126;
    }

    private static void everyByteIsASignOrLeftOut() {
        for (int b = 0; b < 256; b++) {
            int want = isSign(b) ? 1 : 0;
            Check.due("2: byte " + b + ", the highest of a", new HeldMusic().feed((long) b << 56, 0, 0), want);
            Check.due("2: byte " + b + ", the lowest of b", new HeldMusic().feed(0, b, 0), want);
            Check.due("2: byte " + b + ", in c", new HeldMusic().feed(0, 0, (long) b << 24), want);
        }
    }

    private static void upToTwentyFourSigns() {
        HeldMusic x = new HeldMusic();
        Check.due("2: none", x.feed(0, 0, 0), 0);
        Check.due("2: one", x.feed(0, 0, 0x20), 1);
        Check.due("2: twenty-three more", x.feed(BLANKS, BLANKS, BLANKS >>> 8), 24);
        Check.due("2: twenty-four more", x.feed(BLANKS, BLANKS, BLANKS), 48);
        Check.due("2: none of -1", x.feed(-1, -1, -1), 48);
        Check.due("2: none of the least", x.feed(Long.MIN_VALUE, Long.MIN_VALUE, Long.MIN_VALUE), 48);
        Check.due("2: as counted", x.count(11), 48);
    }

    private static void theHighestByteFirstAndAThenBThenC() {
        HeldMusic x = new HeldMusic();
        x.feed(Check.eight("takes   ", 0), Check.eight("      1 ", 0), Check.eight("       ;", 0));
        Check.due("2: its three in their order", x.office(), 0);
        x.feed(Check.eight("       ;", 0), Check.eight("      1 ", 0), Check.eight("takes   ", 0));
        Check.due("2: the other way round", x.office(), Check.fault(1, 7));
        x.feed(Check.eight("takes 12", 0), Check.eight(";", 0), 0);
        Check.due("2: takes", x.office() == 0 ? x.count(1) : -1, 12);
    }

    private static void whatIsLeftOutLeavesNoGap() {
        HeldMusic x = new HeldMusic();
        x.feed(0x74_00_61_09_6bL << 24 | 0x1f657fL, 0x73_80_20_ffL << 32 | 0x31_0d_37L << 8, 0x3b);
        Check.due("2: takes 17; is left", x.count(11), 9);
        Check.due("2: read as one word and one number", x.office(), 0);
        Check.due("2: takes", x.count(1), 17);
        x.feed(0x0174L, 0x0241L, 0);
        Check.due("2: places are those of the tape", x.office(), Check.fault(1, 0));
        x.feed(0x20_01_20_7fL, 0x02_41L, 0);
        Check.due("2: places without what is left out", x.office(), Check.fault(1, 2));
    }

    private static HeldMusic fed(int signs) {
        HeldMusic x = new HeldMusic();
        Check.feed(x, " ".repeat(signs));
        Check.due("2: fed", x.count(11), Math.min(signs, 1000));
        return x;
    }

    private static void aThousandSigns() {
        HeldMusic x = fed(998);
        Check.due("2: the 999th", x.feed(0x20, 0, 0), 999);
        Check.due("2: the 1000th", x.feed(0, 0x20, 0), 1000);
        Check.due("2: the 1001st", x.feed(0, 0, 0x20), 1000);
        Check.due("2: all twenty-four beyond", x.feed(BLANKS, BLANKS, BLANKS), 1000);
        Check.due("2: nothing to a full one", x.feed(0, 0, 0), 1000);
        Check.due("36: as counted", x.count(11), 1000);
        Check.due("3: read", x.office(), 0);
    }

    private static void beyondAThousandWithinOneCall() {
        for (int over = 0; over <= 24; over++) {
            HeldMusic x = fed(976 + over);
            Check.due("2: " + over + " of 24 beyond", x.feed(BLANKS, BLANKS, BLANKS), 1000);
        }
        HeldMusic x = fed(975);
        Check.due("2: one is still free", x.feed(BLANKS, BLANKS, BLANKS), 999);
        // The first of a call are kept, those beyond are left out: "takes 7;" and not "kes 7;".
        x = fed(992);
        x.feed(Check.eight("takes 7;", 0), Check.eight("?", 0), 0);
        Check.due("2: the first ones are kept", x.office(), 0);
        x = fed(993);
        x.feed(Check.eight("takes 7;", 0), 0, 0);
        Check.due("2: the last one is left out", x.office(), Check.fault(1, 1000));
    }

    private static void theThousandthSignIsReadTheNextIsNot() {
        HeldMusic x = new HeldMusic();
        Check.due("3: 1000 signs", Check.office(x, "takes 7" + " ".repeat(992) + ";"), 0);
        Check.due("3: takes", x.count(1), 7);
        Check.due("3: 1001 signs", Check.office(x, "takes 8" + " ".repeat(993) + ";"), Check.fault(1, 1000));
        Check.due("3: takes stays", x.count(1), 7);
        Check.due("3: a none at the last place", Check.office(x, " ".repeat(999) + "?"), Check.fault(1, 999));
        Check.due("3: a none beyond it", Check.office(x, " ".repeat(1000) + "?"), 0);
        Check.due("4: 1000 signs", Check.day(x, "minute" + " ".repeat(993) + ";"), 0);
        Check.due("4: 1001 signs", Check.day(x, "minute" + " ".repeat(994) + ";"), Check.fault(1, 1000));
        Check.due("4: a word cut off is another", Check.day(x, " ".repeat(995) + "minute;"), Check.fault(1, 995));
        Check.due("4: not cut off", Check.day(x, " ".repeat(993) + "minute;"), 0);
    }

    private static void aFullTapeIsFedAnewWhenRead() {
        HeldMusic x = fed(1000);
        Check.due("3: full", x.office(), 0);
        Check.due("2: from the beginning again", x.feed(0x20, 0, 0), 1);
        Check.feed(x, " ".repeat(1000));
        Check.due("2: full again", x.count(11), 1000);
        Check.due("4: full", x.day(), 0);
        Check.due("3: nothing of it is left", Check.office(x, "?"), Check.fault(1, 0));
    }

    private static void whatReadsItTakesIt() {
        HeldMusic x = new HeldMusic();
        String[] texts = {"", " ", "takes 7;", "takes 21;", "minute;", "?"};
        for (String text : texts) {
            Check.office(x, text);
            Check.due("3: empty behind office of '" + text + "'", x.count(11), 0);
            Check.day(x, text);
            Check.due("4: empty behind day of '" + text + "'", x.count(11), 0);
        }
        Check.office(x, "takes 7");
        Check.due("3: what comes later does not go on", Check.office(x, ";"), Check.fault(1, 0));
        // Nothing else takes it.
        Check.feed(x, "takes 9;");
        x.minute();
        x.undo();
        x.mark(0, false);
        x.mark(0, true);
        x.judged(0);
        Check.due("2: it stays else", x.count(11), 8);
        Check.due("3: whole", x.office(), 0);
        Check.due("3: takes", x.count(1), 9);
    }

    private static void nothingOnTheTape() {
        HeldMusic x = Check.opened("caller a shy trouble 1 knows 2 holds 3;takes 7;");
        Check.due("4: a day", Check.day(x, "minute;"), 0);
        Check.due("4: a day of nothing", x.day(), 0);
        Check.due("4: has no lines", x.count(8), 0);
        Check.due("4: leaves the office", x.count(0), 1);
        Check.due("3: an office of nothing", x.office(), 0);
        Check.due("3: has no callers", x.count(0), 0);
        Check.due("3: takes 5", x.count(1), 5);
    }

    private static int named(String name) {
        return Check.office(new HeldMusic(), "caller " + name + " shy trouble 1 knows 2 holds 3;");
    }

    private static void wordsOfEightLetters() {
        Check.due("one letter", named("a"), 0);
        Check.due("the last letter", named("z"), 0);
        Check.due("seven", named("abcdefg"), 0);
        Check.due("eight", named("abcdefgh"), 0);
        Check.due("eight of the last", named("zzzzzzzz"), 0);
        Check.due("nine", named("abcdefghi"), Check.fault(1, 7));
        Check.due("nine that end as eight", named("zabcdefgh"), Check.fault(1, 7));
        Check.due("sixteen", named("abcdefghabcdefgh"), Check.fault(1, 7));
        // Its last eight letters are a word that may stand there: it is none for all that.
        Check.due("nine at the beginning", Check.office(new HeldMusic(), "xbelieves 1;"), Check.fault(1, 0));
        Check.due("eight at the beginning", Check.office(new HeldMusic(), "believes 1;"), 0);
    }

    private static void numbersOfFourDigits() {
        String[] fine = {"7", "07", "007", "0007"};
        for (String number : fine) {
            HeldMusic x = new HeldMusic();
            Check.due("takes " + number, Check.office(x, "takes " + number + ";"), 0);
            Check.due("takes " + number, x.count(1), 7);
        }
        Check.due("five digits", Check.office(new HeldMusic(), "takes 00007;"), Check.fault(1, 6));
        Check.due("nine digits", Check.office(new HeldMusic(), "takes 000000007;"), Check.fault(1, 6));
        Check.due("four nines are a number", Check.office(new HeldMusic(), "takes 9999;"), Check.fault(4, 6));
        Check.due("five nines are none", Check.office(new HeldMusic(), "takes 99999;"), Check.fault(1, 6));
        Check.due("in a law four", Check.office(new HeldMusic(), "believes 9999;"), 0);
        Check.due("in a law five", Check.office(new HeldMusic(), "believes 10000;"), Check.fault(1, 9));
        Check.due("twenty digits", Check.office(new HeldMusic(), "believes 18446744073709551623;"), Check.fault(1, 9));
    }

    private static void tokensAsLongAsCanBe() {
        Check.due("a name that begins as a word", named("callers"), 0);
        Check.due("a name that ends as a word", named("anot"), 0);
        Check.due("a word run into the next", Check.office(new HeldMusic(), "callera shy"), Check.fault(1, 0));
        Check.due("digits run together", Check.office(new HeldMusic(), "caller a shy trouble 1 knows 12 holds 3;"),
            Check.fault(4, 29));
        Check.due("not run into its part", Check.office(new HeldMusic(), "believes notheld;"), Check.fault(1, 9));
        Check.due("and run into its part", Check.office(new HeldMusic(), "believes 1 andheld;"), Check.fault(1, 11));
        // A sign is a token by itself, however many stand together.
        Check.due("signs together", Check.office(new HeldMusic(), "believes((1)+(2))*(3);"), 0);
        Check.due("two signs together", Check.office(new HeldMusic(), "believes 1<=2;"), Check.fault(1, 11));
    }

    private static void aLetterRightBehindANumber() {
        HeldMusic x = new HeldMusic();
        Check.due("letters right behind numbers",
            Check.office(x, "takes 7;believes 1and 1or held;caller a shy trouble 1knows 2 3holds 4;"), 0);
        Check.due("holds", x.caller(0, 2), 4);
        // A number ends there, and what stands behind it is looked at by itself.
        Check.due("four digits and letters", Check.office(x, "takes 0007x;"), Check.fault(1, 10));
        Check.due("five digits and a letter", Check.office(x, "takes 00007x;"), Check.fault(1, 6));
        Check.due("a digit right behind a word", Check.office(x, "takes7;caller a shy trouble1knows2 3holds4;"), 0);
        Check.due("answers", x.caller(0, 3), 12);
        Check.due("a digit ends a name", named("a1"), Check.fault(1, 8));
    }

    private static void blanksWhereOneLikes() {
        HeldMusic x = new HeldMusic();
        Check.due("none where none is needed", Check.office(x, "believes(held<1)and not(met=2);takes 3;"), 0);
        String[] blanks = {" ", "\n", "  ", "\n\n", " \n", "\n "};
        for (String b : blanks) {
            String text = b + "takes" + b + "7" + b + ";" + b + "believes" + b + "(" + b + "1" + b + "<" + b + "2" + b
                + ")" + b + ";" + b;
            Check.due("blanks between all", Check.office(x, text), 0);
            Check.due("blanks between all of a day", Check.day(x, b + "minute" + b + ";" + b), 0);
        }
        Check.due("as many as there is room for", Check.office(x, "takes" + " ".repeat(993) + "7;"), 0);
    }

    private static void blanksPartTokens() {
        HeldMusic x = new HeldMusic();
        Check.due("a word parted", Check.office(x, "ta kes 7;"), Check.fault(1, 0));
        Check.due("a number parted", Check.office(x, "takes 1 7;"), Check.fault(1, 8));
        Check.due("a number parted by a line's end", Check.office(x, "takes 1\n7;"), Check.fault(1, 8));
        Check.due("answers parted", Check.office(x, "caller a shy trouble 1 knows 1 2 holds 3;"), 0);
        Check.due("answers", x.caller(0, 3), 6);
    }

    private static void everySignThatIsNone() {
        for (char sign = 33; sign <= 126; sign++) {
            boolean letter = sign >= 'a' && sign <= 'z';
            boolean digit = sign >= '0' && sign <= '9';
            if (letter || digit) {
                continue;
            }
            Check.due("at the beginning: " + sign, Check.office(new HeldMusic(), sign + " 7;"), Check.fault(1, 0));
            boolean joins = SIGNS.indexOf(sign) >= 2 && sign != ';';
            Check.due("between two numbers: " + sign, Check.office(new HeldMusic(), "believes 1" + sign + "1;"),
                joins ? 0 : Check.fault(1, sign == ';' ? 11 : 10));
            Check.due("at the end of a line: " + sign, Check.day(new HeldMusic(), "minute" + sign),
                sign == ';' ? 0 : Check.fault(1, 6));
            Check.due("for a name: " + sign, named("" + sign), Check.fault(1, 7));
            Check.due("for a name in a day: " + sign, Check.day(new HeldMusic(), "ring " + sign + ";"), Check.fault(1, 5));
            Check.due("for a number: " + sign, Check.office(new HeldMusic(), "takes " + sign + ";"), Check.fault(1, 6));
            // Right behind a word or a number it is no part of it.
            Check.due("behind a name: " + sign, named("a" + sign), Check.fault(1, 8));
            Check.due("behind a number: " + sign, Check.office(new HeldMusic(), "takes 7" + sign),
                sign == ';' ? 0 : Check.fault(1, 7));
        }
    }

    /** A number is not the sign, nor the letter, that has this code. */
    private static void numbersAreNoSigns() {
        for (int i = 0; i < SIGNS.length(); i++) {
            int code = SIGNS.charAt(i);
            Check.due("a line's end: " + code, Check.office(new HeldMusic(), "takes 7 " + code), Check.fault(1, 8));
            Check.due("a day's line's end: " + code, Check.day(new HeldMusic(), "minute " + code), Check.fault(1, 7));
            Check.due("between two: " + code, Check.office(new HeldMusic(), "believes 1 " + code + " 1;"), Check.fault(1, 11));
            HeldMusic x = Check.opened("caller a plain trouble 9 knows 1 holds 9;caller b plain trouble 9 knows 2 holds 9;believes "
                + code + "=" + (code - 1) + "+1;");
            Check.due("its own value: " + code, x.hears(0, 1), 4);
        }
        for (int code = 'a'; code <= 'z'; code++) {
            HeldMusic x = Check.opened("caller " + (char) code + " plain trouble 9 knows 1 holds 9;");
            Check.due("no name: " + code, Check.day(x, "ring " + code + ";"), Check.fault(1, 5));
            Check.due("a name: " + (char) code, Check.day(x, "ring " + (char) code + ";"), 0);
        }
    }

    private static void longerOnesAtTheirFirstSign() {
        HeldMusic x = Check.opened("caller a shy trouble 1 knows 2 holds 3;");
        Check.due("a longer word in a day", Check.day(x, "ring   abcdefghi;"), Check.fault(1, 7));
        Check.due("a word of eight in a day", Check.day(x, "ring   abcdefgh;"), Check.fault(2, 7));
        Check.due("a longer number among answers", Check.office(x, "caller b shy trouble 1 knows 2 00003 holds 3;"),
            Check.fault(1, 31));
        Check.due("a longer word in a law", Check.office(x, "believes 1 and   abcdefghi;"), Check.fault(1, 17));
        Check.due("a longer number in a law", Check.office(x, "believes 1 and\n\n12345;"), Check.fault(1, 16));
    }
}
