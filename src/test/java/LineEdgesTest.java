/** The edges of the LINE by hand: promises 5 to 10 and 12; a method for each sentence. */
public final class LineEdgesTest {
    /** Six whom nobody helps, and who hold long. */
    private static final String SIX = "takes 20;caller a plain trouble 9 knows 0 holds 30;caller b plain trouble 9 knows 1 holds 30;"
        + "caller c plain trouble 9 knows 2 holds 30;caller d plain trouble 9 knows 3 holds 30;"
        + "caller e plain trouble 9 knows 4 holds 30;caller f plain trouble 9 knows 5 holds 2;";
    private static final int[] FAR = {-1, -2, 6, 7, 32, Integer.MIN_VALUE, Integer.MAX_VALUE};

    public static void main(String[] args) {
        callerWhats();
        callerSettled();
        callerOthers();
        metOthersAndTheSame();
        placesOfTheLine();
        ringComesToTheEnd();
        ringOnIt();
        ringSettled();
        ringAgain();
        ringOthers();
        offAnyPlace();
        offTheOnlyOne();
        offNotOnIt();
        swapAnyTwo();
        swapLeavesWhatTheyHeld();
        swapRefused();
        refusedCallsChangeNothing();
        undoNothing();
        undoEach();
        undoSixteen();
        undoSixteenAgainAndAgain();
        undoneIsGone();
        undoLeavesToldDayAndMarks();
        undoOfAMinuteIsWhole();
        Check.end("LineEdgesTest");
    }

    private static HeldMusic rung(int... callers) {
        HeldMusic x = Check.opened(SIX);
        for (int who : callers) {
            x.ring(who);
        }
        return x;
    }

    /** The line as digits, the first one highest, a 9 ahead of them. */
    private static int row(HeldMusic x) {
        int row = 9;
        for (int i = 0; i < x.count(3); i++) {
            row = row * 10 + x.line(i);
        }
        return row;
    }

    private static void callerWhats() {
        HeldMusic x = rung(5, 1);
        x.minute();
        int[] second = {0, 9, 30, 1 << 1 | 1 << 5, 0, 1, 1};
        for (int what = 0; what <= 6; what++) {
            Check.due("5: what " + what, x.caller(1, what), second[what]);
        }
        int[] third = {0, 9, 30, 1 << 2, 0, -1, 0};
        for (int what = 0; what <= 6; what++) {
            Check.due("5: not on it, what " + what, x.caller(2, what), third[what]);
        }
        int[] others = {-1, -2, 7, 8, Integer.MIN_VALUE, Integer.MAX_VALUE};
        for (int what : others) {
            Check.due("5: what " + what, x.caller(1, what), -2);
        }
        // A place none is NONE, not -2.
        Check.due("5: no place", x.caller(0, 5), -1);
    }

    private static void callerSettled() {
        HeldMusic x = Check.opened("takes 3;caller a plain trouble 9 knows 0 holds 9;caller b plain trouble 8 knows 1 holds 9;"
            + "caller c plain trouble 7 knows 7 holds 9;");
        x.ring(0);
        x.ring(1);
        x.minute();
        x.ring(2);
        for (int who = 0; who < 3; who++) {
            Check.due("5: nobody yet", x.caller(who, 4), 0);
        }
        x.minute();
        Check.due("5: c is", x.caller(2, 4), 1);
        Check.due("5: a is not", x.caller(0, 4), 0);
        x.minute();
        Check.due("5: a is, taken up", x.caller(0, 4), 1);
        Check.due("5: b is not", x.caller(1, 4), 0);
        x.undo();
        Check.due("5: a is not, undone", x.caller(0, 4), 0);
        Check.due("5: c still is", x.caller(2, 4), 1);
    }

    private static void callerOthers() {
        for (int who : FAR) {
            for (int what = -1; what <= 7; what++) {
                Check.due("5: caller " + who, rung(0).caller(who, what), -2);
            }
        }
        for (int many = 0; many < 6; many++) {
            StringBuilder office = new StringBuilder();
            for (int i = 0; i < many; i++) {
                office.append("caller ").append((char) ('a' + i)).append(" shy trouble 1 knows 2 holds 3;");
            }
            HeldMusic x = Check.opened(office.toString());
            Check.due("5: the last of " + many, x.caller(many - 1, 2), many == 0 ? -2 : 3);
            Check.due("5: behind the last of " + many, x.caller(many, 2), -2);
        }
    }

    private static void metOthersAndTheSame() {
        HeldMusic x = rung(0, 5);
        Check.due("6: never", x.met(0, 5), 0);
        x.minute();
        x.off(0);
        x.off(5);
        Check.due("6: once, though they are off", x.met(0, 5), 1);
        Check.due("6: the other way", x.met(5, 0), 1);
        Check.due("6: not another", x.met(0, 4), 0);
        for (int who = 0; who < 6; who++) {
            Check.due("6: the same", x.met(who, who), -1);
        }
        for (int who : FAR) {
            Check.due("6: others", x.met(0, who), -1);
            Check.due("6: others", x.met(who, 0), -1);
            Check.due("6: others, the same", x.met(who, who), -1);
        }
    }

    private static void placesOfTheLine() {
        HeldMusic x = rung();
        Check.due("7: empty", x.line(0), -1);
        for (int i = 0; i < 6; i++) {
            x.ring(5 - i);
            Check.due("7: the last place", x.line(i), 5 - i);
            Check.due("7: behind it", x.line(i + 1), -1);
        }
        Check.due("7: all six", row(x), 9543210);
        Check.due("7: ahead of the first", x.line(-1), -1);
        for (int i : FAR) {
            Check.due("7: place " + i, x.line(i), -1);
        }
        x.off(0);
        Check.due("7: no sixth any more", x.line(5), -1);
    }

    private static void ringComesToTheEnd() {
        HeldMusic x = rung();
        for (int i = 0; i < 6; i++) {
            Check.due("8: his place", x.ring(i * 5 % 6), i);
            Check.due("5: his place", x.caller(i * 5 % 6, 5), i);
            Check.due("5: held 0", x.caller(i * 5 % 6, 6), 0);
        }
        Check.due("8: in their order", row(x), 9054321);
        x.off(5);
        Check.due("8: to the end again", x.ring(5), 5);
        Check.due("8: not where he was", row(x), 9043215);
    }

    private static void ringOnIt() {
        HeldMusic x = rung(0, 1);
        x.minute();
        Check.due("8: the first is on it", x.ring(0), -1);
        Check.due("8: the last is on it", x.ring(1), -1);
        Check.due("5: held as before", x.caller(0, 6), 1);
        Check.due("8: as they stood", row(x), 901);
    }

    private static void ringSettled() {
        HeldMusic x = Check.opened("takes 2;caller a plain trouble 1 knows 1 holds 9;caller b plain trouble 2 knows 3 holds 9;");
        x.ring(0);
        x.ring(1);
        Check.due("11: a is settled by his own", x.minute(), 1);
        Check.due("8: settled by an answer", x.ring(0), -1);
        Check.due("11: b is taken up", x.minute(), 2);
        Check.due("8: taken up", x.ring(1), -1);
        x.undo();
        Check.due("8: b holds still", x.ring(1), -1);
        x.off(1);
        Check.due("8: b is settled no more", x.ring(1), 0);
    }

    private static void ringAgain() {
        HeldMusic x = rung(5);
        x.minute();
        Check.due("9: off", x.off(5), true);
        Check.due("5: held nothing off the line", x.caller(5, 6), 0);
        Check.due("8: again", x.ring(5), 0);
        Check.due("5: held 0", x.caller(5, 6), 0);
        x.minute();
        Check.due("5: held 1 alone, he holds on", x.caller(5, 6), 1);
        x.minute();
        Check.due("5: off by himself", x.caller(5, 5), -1);
        Check.due("8: again behind that", x.ring(5), 0);
        Check.due("5: held 0 again", x.caller(5, 6), 0);
    }

    private static void ringOthers() {
        HeldMusic x = rung();
        for (int who : FAR) {
            Check.due("8: ring " + who, x.ring(who), -1);
            Check.due("9: off " + who, x.off(who), false);
            Check.due("10: swap " + who, x.swap(who, 0), false);
        }
        Check.due("8: nobody", x.count(3), 0);
        Check.due("8: the last one", x.ring(5), 0);
        x = new HeldMusic();
        Check.due("8: no callers", x.ring(0), -1);
        Check.due("9: no callers", x.off(0), false);
        Check.due("10: no callers", x.swap(0, 1), false);
    }

    private static void offAnyPlace() {
        int[] behind = {912345, 902345, 901345, 901245, 901235, 901234};
        for (int who = 0; who < 6; who++) {
            HeldMusic x = rung(0, 1, 2, 3, 4, 5);
            Check.due("9: off " + who, x.off(who), true);
            Check.due("9: the others as they stood", row(x), behind[who]);
            Check.due("5: no place", x.caller(who, 5), -1);
            Check.due("36: bits", x.count(4), 63 & ~(1 << who));
        }
    }

    private static void offTheOnlyOne() {
        HeldMusic x = rung(3);
        Check.due("9: off", x.off(3), true);
        Check.due("36: nobody", x.count(3), 0);
        Check.due("36: no bits", x.count(4), 0);
        Check.due("9: not settled", x.count(5), 0);
        Check.due("9: twice", x.off(3), false);
    }

    private static void offNotOnIt() {
        HeldMusic x = rung(0);
        Check.due("9: never rang", x.off(1), false);
        x = Check.opened("caller a plain trouble 1 knows 1 holds 9;");
        x.ring(0);
        x.minute();
        Check.due("9: settled", x.off(0), false);
    }

    private static void swapAnyTwo() {
        for (int one = 0; one < 6; one++) {
            for (int two = 0; two < 6; two++) {
                HeldMusic x = rung(0, 1, 2, 3, 4, 5);
                Check.due("10: swap", x.swap(one, two), one != two);
                for (int i = 0; i < 6; i++) {
                    Check.due("10: who stands there", x.line(i), i == one ? two : i == two ? one : i);
                }
            }
        }
    }

    private static void swapLeavesWhatTheyHeld() {
        HeldMusic x = rung(0);
        x.minute();
        x.ring(1);
        Check.due("10: swap", x.swap(0, 1), true);
        Check.due("5: a has held one", x.caller(0, 6), 1);
        Check.due("5: b has held none", x.caller(1, 6), 0);
        Check.due("5: a's place", x.caller(0, 5), 1);
        Check.due("5: b's place", x.caller(1, 5), 0);
    }

    private static void swapRefused() {
        HeldMusic x = rung(0, 1);
        Check.due("10: the same", x.swap(0, 0), false);
        Check.due("10: the first is not on it", x.swap(2, 0), false);
        Check.due("10: the second is not on it", x.swap(0, 2), false);
        Check.due("10: neither is", x.swap(2, 3), false);
        Check.due("10: the same, not on it", x.swap(2, 2), false);
        for (int who : FAR) {
            Check.due("10: others", x.swap(0, who), false);
            Check.due("10: others", x.swap(who, 1), false);
            Check.due("10: others, the same", x.swap(who, who), false);
        }
        Check.due("10: as they stood", row(x), 901);
    }

    private static void refusedCallsChangeNothing() {
        HeldMusic x = rung(0, 1);
        x.minute();
        String before = Seen.of(x);
        x.ring(0);
        x.ring(6);
        x.off(2);
        x.off(-1);
        x.swap(0, 0);
        x.swap(0, 2);
        x.tell(6, true);
        x.mark(4, false);
        x.mark(0, true);
        x.caller(9, 9);
        Seen.same("8, 9, 10: nothing is changed", Seen.of(x), before);
        Check.due("36: three can be undone", x.count(10), 3);
    }

    private static void undoNothing() {
        HeldMusic x = rung();
        Check.due("12: nothing was done", x.undo(), false);
        x.ring(9);
        x.off(0);
        x.swap(0, 1);
        Check.due("12: nothing that was refused", x.undo(), false);
        x.tell(0, true);
        x.mark(0, false);
        Check.day(x, "minute;");
        Check.due("12: nothing else", x.undo(), false);
        Check.due("36: nothing", x.count(10), 0);
    }

    private static void undoEach() {
        HeldMusic x = rung(0, 1);
        x.swap(0, 1);
        Check.due("12: a swap", x.undo(), true);
        Check.due("12: as they stood", row(x), 901);
        x.off(0);
        Check.due("12: an off", x.undo(), true);
        Check.due("12: at his place again", row(x), 901);
        x.ring(2);
        Check.due("12: a ring", x.undo(), true);
        Check.due("12: off it again", row(x), 901);
        x.minute();
        Check.due("12: a minute", x.undo(), true);
        Check.due("12: the minute", x.count(2), 0);
        Check.due("36: two are left", x.count(10), 2);
        x.undo();
        x.undo();
        Check.due("12: all", row(x), 9);
        Check.due("12: no more", x.undo(), false);
    }

    private static void undoSixteen() {
        for (int many = 14; many <= 18; many++) {
            HeldMusic x = rung();
            for (int i = 0; i < many; i++) {
                x.minute();
                Check.due("36: as many, sixteen at most", x.count(10), Math.min(i + 1, 16));
            }
            int undone = Math.min(many, 16);
            for (int i = 1; i <= undone; i++) {
                Check.due("12: one of " + many, x.undo(), true);
                Check.due("12: the last one first", x.count(2), many - i);
                Check.due("36: one less", x.count(10), undone - i);
            }
            Check.due("12: not the 17th", x.undo(), false);
            Check.due("12: what is left", x.count(2), many - undone);
        }
    }

    private static void undoSixteenAgainAndAgain() {
        HeldMusic x = rung();
        int minute = 0;
        // Fewer undone than done, so that the elder come round to their places again and again.
        for (int round = 0; round < 12; round++) {
            for (int i = 0; i < 7; i++) {
                x.minute();
            }
            for (int i = 0; i < 4; i++) {
                Check.due("12: again", x.undo(), true);
            }
            minute += 3;
            Check.due("12: the minute", x.count(2), minute);
        }
        int left = x.count(10);
        Check.due("36: twelve are left of sixteen", left, 12);
        for (int i = 0; i < left; i++) {
            Check.due("12: all that is left", x.undo(), true);
        }
        Check.due("12: no more", x.undo(), false);
        Check.due("12: the minute", x.count(2), minute - 12);
    }

    private static void undoneIsGone() {
        HeldMusic x = rung(0, 1, 2);
        x.undo();
        x.undo();
        x.ring(4);
        Check.due("12: something else instead", row(x), 904);
        Check.due("36: two", x.count(10), 2);
        x.undo();
        Check.due("12: that is undone", row(x), 90);
        x.undo();
        Check.due("12: and what was ahead", row(x), 9);
        Check.due("12: not what was undone before", x.undo(), false);
    }

    private static void undoLeavesToldDayAndMarks() {
        HeldMusic x = rung(0);
        x.tell(3, true);
        Check.day(x, "minute;");
        x.mark(2, false);
        x.ring(1);
        Check.feed(x, "abc");
        Check.due("12: the ring", x.undo(), true);
        Check.due("36: the day", x.count(8), 1);
        Check.due("36: told", x.count(9), 1);
        Check.due("36: the tape", x.count(11), 3);
        x.undo();
        Check.due("35: the mark is there", x.mark(2, true), true);
        Check.due("35: as it was laid", row(x), 90);
        Check.due("12: nothing can be undone then", x.undo(), false);
    }

    private static void undoOfAMinuteIsWhole() {
        HeldMusic x = Check.opened("takes 1;caller a plain trouble 1 knows 2 holds 9;caller b plain trouble 2 knows 1 holds 9;"
            + "caller c plain trouble 9 knows 3 holds 1;caller d plain trouble 8 knows 4 holds 9;");
        x.ring(0);
        x.ring(1);
        x.ring(2);
        x.ring(3);
        String before = Seen.of(x);
        Check.due("11: two by talk, one taken up", x.minute(), 11);
        Check.due("11: all are off it", x.count(3), 0);
        Check.due("12: undone", x.undo(), true);
        Seen.same("12: all as before", Seen.of(x), before);
        Check.due("11: once more alike", x.minute(), 11);
        Check.due("36: taken up", x.count(7), 8);
    }
}
