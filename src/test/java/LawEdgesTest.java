/** The edges of E, of its facts and of its values: what the terms say of believes; a method for each sentence. */
public final class LawEdgesTest {
    private static final String TWO = "caller a plain trouble 9 knows 1 holds 30;caller b plain trouble 9 knows 2 3 holds 30;takes 20;";
    /** -2147483648, by wrapping. */
    private static final String LEAST = "8192*8192*32";

    public static void main(String[] args) {
        andAndOrFromTheLeft();
        oneComparingInATest();
        sumsAndProducts();
        notIsOfItsPartAlone();
        oneOrZeroComesOfThem();
        whatIsNotZeroIsSo();
        intsWrap();
        numbersOfALaw();
        factsOnly();
        withinFourOfNotAndBrackets();
        withinFiveOfNotAndBrackets();
        whatIsClosedIsCountedNoMore();
        aNumberOfTestsSumsAndProducts();
        heldIsOfWhoHears();
        heldAsItIsThen();
        metThisTimeToo();
        ownOfWhoHears();
        theirsOfWhoTells();
        asAllIsThen();
        withoutBelieves();
        bracketsMustMatch();
        Check.end("LawEdgesTest");
    }

    /** Whether one believes by this law who has held 0, met 1 (this time), own 1, theirs 2. */
    private static void is(String law, boolean want) {
        HeldMusic x = Check.opened(TWO + "believes " + law + ";");
        Check.due("believes " + law, x.hears(0, 1), want ? 12 : 0);
    }

    private static void fault(String law, int kind, int place) {
        String text = "believes " + law;
        int want = kind == 0 ? 0 : Check.fault(kind, 9 + place);
        Check.due("office of '" + text + "'", Check.office(new HeldMusic(), text), want);
    }

    /** What comes of a sum is this, and neither one more nor one less. */
    private static void comes(String sum, int value) {
        is(sum + "=" + value, true);
        is(sum + "=" + (value + 1), false);
        is(sum + "+1=" + value, false);
    }

    private static void andAndOrFromTheLeft() {
        is("1 or 1 and 0", false);
        is("1 or (1 and 0)", true);
        is("0 and 0 or 1", true);
        is("0 and (0 or 1)", false);
        is("1 or 0 and 0 or 1", true);
        is("1 and 0 or 1 and 0", false);
        is("0 or 0 or 0", false);
        is("1 and 1 and 1", true);
        is("0 or 1", true);
        is("1 or 0", true);
        is("0 and 1", false);
        is("1 and 0", false);
    }

    private static void oneComparingInATest() {
        is("1<2", true);
        is("2<2", false);
        is("3<2", false);
        is("2=2", true);
        is("1=2", false);
        is("2=1", false);
        is("(3<2)<1", true);
        is("3<(2<1)", false);
        is("1=(2=2)", true);
        is("1<2 and 2<3", true);
        is("1<2 or 2=3", true);
        fault("1<2<3;", 1, 3);
        fault("1=1=1;", 1, 3);
        fault("1<2=1;", 1, 3);
        fault("1=2<1;", 1, 3);
        fault("(1<2<3);", 1, 4);
        fault("1<2 and 1=1=1;", 1, 11);
    }

    private static void sumsAndProducts() {
        comes("10-3-2", 5);
        comes("10-(3-2)", 9);
        comes("10-3+2", 9);
        comes("2+3*4", 14);
        comes("2*3+4", 10);
        comes("2*3*4", 24);
        comes("20-2*3-4", 10);
        comes("(2+3)*4", 20);
        comes("4*(2+3)", 20);
        comes("1-(2-(3-(4-5)))", 3);
        is("1+1<3", true);
        is("3<1+1", false);
        is("0*9999", false);
        is("5-5", false);
        fault("-1;", 1, 0);
        fault("+1;", 1, 0);
        fault("1--1;", 1, 2);
        fault("1+-1;", 1, 2);
        fault("1**1;", 1, 2);
        fault("1*;", 1, 2);
        fault("*1;", 1, 0);
        // Of two that can't stand there the first is told.
        fault("**;", 1, 0);
        fault("++;", 1, 0);
        fault("--;", 1, 0);
        fault("<<;", 1, 0);
        fault("1***1;", 1, 2);
        fault("1+++1;", 1, 2);
        fault("1<<<1;", 1, 2);
        fault("1==1;", 1, 2);
        fault("and and;", 1, 0);
        fault("1 and and and 1;", 1, 6);
        fault("1 or and 1;", 1, 5);
    }

    private static void notIsOfItsPartAlone() {
        comes("not 0+1", 2);
        comes("not 1+1", 1);
        comes("not (1+1)", 0);
        comes("not 0*5", 5);
        comes("not 2", 0);
        comes("not not 5", 1);
        comes("1+not 0", 2);
        comes("1+not 7", 1);
        comes("2*not 0", 2);
        comes("3-not 0-not 0", 1);
        comes("1+2*not 0", 3);
        is("not 0 and 0", false);
        is("not 1 or 1", true);
        is("1 and not 1", false);
        is("1 and not 0", true);
        is("0 or not 1", false);
        is("1<not 0", false);
        is("0<not 0", true);
        fault("1 not 1;", 1, 2);
        fault("not;", 1, 3);
        fault("not and 1;", 1, 4);
        fault("not -1;", 1, 4);
    }

    private static void oneOrZeroComesOfThem() {
        is("(7 and 9)=1", true);
        is("(0 and 9)=0", true);
        is("(9 and 0)=0", true);
        is("(0 or 9)=1", true);
        is("(9 or 0)=1", true);
        is("(9 or 9)=1", true);
        is("(0 or 0)=0", true);
        is("not 0=1", true);
        is("not 9=0", true);
        is("(1<2)=1", true);
        is("(2<1)=0", true);
        is("(3=3)=1", true);
        is("(3=4)=0", true);
        is("(8)=8", true);
    }

    private static void whatIsNotZeroIsSo() {
        is("0", false);
        is("1", true);
        is("2", true);
        is("9999", true);
        is("0-1", true);
        is(LEAST, true);
        is("(0-1) and (0-2)", true);
        is("0-0 or 0-0", false);
        is("not (0-1)", false);
        is("not " + "(" + LEAST + ")", false);
    }

    private static void intsWrap() {
        is(LEAST + "<0", true);
        is("0<" + LEAST + "-1", true);
        is(LEAST + "-1+1<0", true);
        is(LEAST + "+" + LEAST + "=0", true);
        is(LEAST + "+" + LEAST, false);
        is("0-" + LEAST + "=" + LEAST, true);
        is("256*256*256*256", false);
        is("256*256*256*256=0", true);
        is("256*256*256*128<0", true);
        is("0<256*256*256*127", true);
        is("9999*9999*22<0", true);
        is("0<9999*9999*21", true);
        // Compared without a difference, which would wrap.
        is(LEAST + "<" + LEAST + "-1", true);
        is(LEAST + "-1<" + LEAST, false);
        is(LEAST + "<1", true);
        is("1<" + LEAST, false);
    }

    private static void numbersOfALaw() {
        is("0000", false);
        is("0001=1", true);
        is("9999=9998+1", true);
        for (int hundred = 0; hundred < 100; hundred++) {
            HeldMusic x = new HeldMusic();
            for (int number = 100 * hundred; number < 100 * hundred + 100; number++) {
                Check.due("believes " + number, Check.office(x, "believes " + number + ";"), 0);
            }
        }
        fault("10000;", 1, 0);
        fault("1+10000;", 1, 2);
        fault("00000;", 1, 0);
        fault("9999;", 0, 0);
    }

    private static void factsOnly() {
        is("held=0", true);
        is("met=1", true);
        is("own=1", true);
        is("theirs=2", true);
        String[] others = {"a", "holds", "knows", "trouble", "takes", "believes", "caller", "ring", "minute", "plain",
            "shy", "and", "or", "hel", "helds", ";", ")", "<", "="};
        for (String other : others) {
            fault(other + ";", 1, 0);
            fault("1 + " + other + ";", 1, 4);
        }
        // A caller's name is no fact, even where a fact is his name.
        Check.due("a fact as a name", Check.office(new HeldMusic(),
            "caller own shy trouble 1 knows 2 holds 3;caller b shy trouble 1 knows 2 holds 3;believes own;"), 0);
        Check.due("a name in a law", Check.office(new HeldMusic(),
            "caller b shy trouble 1 knows 2 holds 3;believes b;"), Check.fault(1, 48));
    }

    /** A law within some not and brackets, by bits; where its innermost part begins stands in the text's length ahead. */
    private static String opened(int many, int bits) {
        StringBuilder all = new StringBuilder();
        for (int i = 0; i < many; i++) {
            all.append((bits >> i & 1) == 1 ? "not " : "( ");
        }
        return all.toString();
    }

    private static String closed(int many, int bits) {
        return " )".repeat(many - Integer.bitCount(bits & (1 << many) - 1));
    }

    private static void withinFourOfNotAndBrackets() {
        String[] parts = {"1", "0", "held", "met", "own", "theirs"};
        for (int many = 0; many <= 4; many++) {
            for (int bits = 0; bits < 1 << many; bits++) {
                for (String part : parts) {
                    fault(opened(many, bits) + part + closed(many, bits) + ";", 0, 0);
                }
                boolean odd = Integer.bitCount(bits) % 2 == 1;
                is(opened(many, bits) + "1" + closed(many, bits), !odd);
                is(opened(many, bits) + "0" + closed(many, bits), odd);
            }
        }
    }

    private static void withinFiveOfNotAndBrackets() {
        String[] parts = {"1", "held", "met", "own", "theirs", "not", "not 1", "(", "(1)"};
        String[] others = {"", ")", ";", "and 1", "<", "12345", "?", "abc", "holds"};
        for (int bits = 0; bits < 32; bits++) {
            String open = opened(5, bits);
            for (String part : parts) {
                fault(open + part + closed(5, bits) + ";", 5, open.length());
                fault("1 and 2 < " + open + part, 5, open.length() + 10);
            }
            for (String other : others) {
                fault(open + other, 1, open.length());
            }
        }
    }

    private static void whatIsClosedIsCountedNoMore() {
        fault("((((1))))+((((1))))*((((1))));", 0, 0);
        fault("not not not not 1+not not not not 1;", 0, 0);
        fault("not 1+((((1))));", 0, 0);
        fault("not (1)+((((1))));", 0, 0);
        fault("not ((((1))));", 5, 8);
        fault("(1+not 1+(((1))));", 0, 0);
        fault("(1+not 1+((((1)))));", 5, 13);
        fault("(((1)+(1))+(1)<(((1)))=1);", 1, 22);
        fault("(((1)+(1))+(1)<(((1))));", 0, 0);
        fault("(((1)+((2)))+(((3))));", 0, 0);
        fault("(((1)+(((2))))+(((3))));", 5, 9);
        fault("not (not 1 and not (1 or 1)) and (((not 1)));", 0, 0);
        fault("not (not 1 and not (not 1 or 1)) and (((not 1)));", 5, 24);
    }

    private static void aNumberOfTestsSumsAndProducts() {
        String[] joins = {" and 1", " or 0", "+1", "-1", "*1"};
        for (String join : joins) {
            String law = "1" + join.repeat((1000 - 9 - 2) / join.length());
            Check.due("as many as there is room for: " + join, Check.office(new HeldMusic(), "believes " + law + ";"), 0);
        }
        HeldMusic x = Check.opened(TWO + "believes 0" + "+1".repeat(400) + "=400;");
        Check.due("four hundred ones", x.hears(0, 1), 12);
        x = Check.opened(TWO + "believes 401" + "-1".repeat(400) + "=1;");
        Check.due("four hundred less", x.hears(0, 1), 12);
    }

    private static HeldMusic rung(String law, int... callers) {
        HeldMusic x = Check.opened(TWO + "believes " + law + ";");
        for (int who : callers) {
            x.ring(who);
        }
        return x;
    }

    private static void heldIsOfWhoHears() {
        HeldMusic x = rung("held=1", 0);
        x.minute();
        x.ring(1);
        x.minute();
        Check.due("a has held one: he believes", x.caller(0, 3), 14);
        Check.due("b has held none: he does not", x.caller(1, 3), 12);
        x = rung("held=0", 0);
        x.minute();
        x.ring(1);
        x.minute();
        Check.due("a has held one: he does not", x.caller(0, 3), 2);
        Check.due("b has held none: he believes", x.caller(1, 3), 14);
    }

    private static void heldAsItIsThen() {
        // In the minute itself it is not yet one more.
        HeldMusic x = rung("held=2", 0, 1);
        x.minute();
        x.minute();
        Check.due("two minutes over, held 0 and 1 in them", x.count(6), 3);
        x.minute();
        Check.due("held 2 in the third", x.count(6), 6);
        x = rung("held=29", 0, 1);
        for (int i = 0; i < 20; i++) {
            x.minute();
        }
        // The first was taken up in the 20th; who rings off and again begins with 0.
        x.off(1);
        x.ring(1);
        Check.due("held 0 again", x.caller(1, 6), 0);
    }

    private static void metThisTimeToo() {
        HeldMusic x = rung("met=0", 0, 1);
        x.minute();
        x.minute();
        Check.due("never 0", x.count(6), 3);
        x = rung("met=1", 0, 1);
        Check.due("23: the first time to come", x.hears(0, 1), 12);
        x.minute();
        Check.due("the first time", x.count(6), 6);
        x = rung("met=2", 0, 1);
        x.minute();
        Check.due("not yet", x.count(6), 3);
        x.off(0);
        x.ring(0);
        x.minute();
        Check.due("the second time, held anew", x.count(6), 6);
        x = rung("met<2", 0, 1);
        x.minute();
        Check.due("both in one minute: it is one time", x.count(6), 6);
    }

    private static void ownOfWhoHears() {
        HeldMusic x = rung("own=1", 0, 1);
        x.minute();
        Check.due("a has one: he believes", x.caller(0, 3), 14);
        Check.due("b has two: he does not", x.caller(1, 3), 12);
        x = rung("own=2", 0, 1);
        x.minute();
        Check.due("a does not", x.caller(0, 3), 2);
        Check.due("b does", x.caller(1, 3), 14);
    }

    private static void theirsOfWhoTells() {
        HeldMusic x = rung("theirs=1", 0, 1);
        x.minute();
        Check.due("b believes a, who has one", x.caller(1, 3), 14);
        Check.due("a does not believe b", x.caller(0, 3), 2);
        x = rung("theirs=2", 0, 1);
        x.minute();
        Check.due("a believes b, who has two", x.caller(0, 3), 14);
        Check.due("b does not believe a", x.caller(1, 3), 12);
        // What a gossip has from behind is not his, and a shy one has more than he says.
        x = Check.opened("caller g gossip trouble 9 knows 1 holds 9;caller p deaf trouble 9 knows 2 holds 9;"
            + "caller s shy trouble 9 knows 3 4 5 holds 9;caller q plain trouble 3 knows 0 holds 9;believes theirs=1 or theirs=3;");
        x.ring(0);
        x.ring(3);
        x.ring(2);
        x.minute();
        Check.due("a gossip who has one is believed", x.caller(3, 3), 59);
        x = Check.opened("caller s shy trouble 9 knows 3 4 5 holds 9;caller q plain trouble 3 knows 0 holds 9;believes theirs=3;");
        Check.due("23: a shy one who has three and says one", x.hears(1, 0), 8);
    }

    private static void asAllIsThen() {
        // What b has just heard is his when he tells a.
        HeldMusic x = rung("theirs=1 or theirs=3", 0, 1);
        x.minute();
        Check.due("b has three when he tells", x.caller(0, 3), 14);
        x = rung("theirs=1 or theirs=2", 0, 1);
        x.minute();
        Check.due("b has two no more", x.caller(0, 3), 2);
        x = rung("theirs=1 or theirs=2", 1, 0);
        x.minute();
        Check.due("b tells first, a has three then", x.caller(0, 3), 14);
        Check.due("b does not believe three", x.caller(1, 3), 12);
    }

    private static void withoutBelieves() {
        HeldMusic x = Check.opened(TWO);
        Check.due("23: all is believed", x.hears(0, 1), 12);
        x.ring(0);
        x.ring(1);
        x.minute();
        Check.due("11: all is believed", x.count(6), 6);
        fault(";", 1, 0);
        fault("", 1, 0);
    }

    private static void bracketsMustMatch() {
        fault("(1;", 1, 2);
        fault("1);", 1, 1);
        fault("();", 1, 1);
        fault("(1));", 1, 3);
        fault("((1);", 1, 4);
        fault("(1)(1);", 1, 3);
        fault("(1 1);", 1, 3);
        fault("1(1);", 1, 1);
        fault("(1) 1;", 1, 4);
        fault("(and);", 1, 1);
        fault("(1 and);", 1, 6);
    }
}
