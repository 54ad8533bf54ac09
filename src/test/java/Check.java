import java.util.NoSuchElementException;

/** What the tests share: texts fed to an object, answers held against those that are due. */
final class Check {
    private static int wrong = 0;
    private static int asked = 0;

    private Check() {
    }

    static void due(String call, long got, long want) {
        asked++;
        if (got != want) {
            wrong++;
            if (wrong <= 50) {
                System.out.println(call + " answered " + got + ", due is " + want);
            }
        }
    }

    static void due(String call, boolean got, boolean want) {
        due(call, got ? 1 : 0, want ? 1 : 0);
    }

    /** An answer of rests, or Integer.MIN_VALUE where it throws what the document names. */
    static int rests(HeldMusic x, int both, int says, int listens, int what) {
        try {
            return x.rests(both, says, listens, what);
        } catch (NoSuchElementException e) {
            return Integer.MIN_VALUE;
        }
    }

    static int feed(HeldMusic x, String text) {
        int there = x.count(11);
        for (int i = 0; i < text.length(); i += 24) {
            there = x.feed(eight(text, i), eight(text, i + 8), eight(text, i + 16));
        }
        return there;
    }

    static long eight(String text, int from) {
        long packed = 0;
        for (int i = from; i < from + 8; i++) {
            packed = packed << 8 | (i < text.length() ? text.charAt(i) & 255 : 0);
        }
        return packed;
    }

    static int office(HeldMusic x, String text) {
        feed(x, text);
        return x.office();
    }

    static int day(HeldMusic x, String text) {
        feed(x, text);
        return x.day();
    }

    /** A new object with this office. */
    static HeldMusic opened(String text) {
        HeldMusic x = new HeldMusic();
        due("office of " + text, office(x, text), 0);
        return x;
    }

    static int fault(int kind, int place) {
        return kind + 16 * place;
    }

    static void end(String name) {
        System.out.println(name + ": " + asked + " answers, " + wrong + " wrong");
        if (wrong != 0) {
            System.exit(1);
        }
    }
}
