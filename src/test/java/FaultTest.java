import java.util.ArrayDeque;
import java.util.ArrayList;
import java.util.Deque;
import java.util.HashSet;
import java.util.List;
import java.util.Random;
import java.util.Set;
import java.util.regex.Matcher;
import java.util.regex.Pattern;

/**
 * Promises 3 and 4 by spoilt texts: the fault of each, held against a reading that knows no recursion, one token
 * after another with a row of what is open.
 */
public final class FaultTest {
    private static final int TEXTS = 60000;
    private static final Pattern TOKEN = Pattern.compile("[a-z]+|[0-9]+|[^ \n]");
    private static final List<String> KINDS = List.of("plain", "shy", "gossip", "deaf");
    private static final List<String> FACTS = List.of("held", "met", "own", "theirs");
    private static final Set<String> RESERVED = Set.of("caller", "trouble", "knows", "holds", "takes", "believes",
        "ring", "off", "swap", "minute", "plain", "shy", "gossip", "deaf", "not", "and", "or");
    private static final String[] SCRAPS = {"caller", "trouble", "knows", "holds", "takes", "believes", "ring", "off",
        "swap", "minute", "plain", "shy", "gossip", "deaf", "not", "and", "or", "held", "met", "own", "theirs", "ann",
        "bob", "cy", "(", ")", "<", "=", "+", "-", "*", ";", "0", "1", "9", "10", "30", "31", "20", "21", "9999",
        "12345", "abcdefghi", "?", "A", "not", "(", "(", ")", ";"};

    private static Random draw;
    private static String text;
    private static List<String> tokens;
    private static List<Integer> places;
    private static int at;
    private static int fault;

    public static void main(String[] args) {
        for (int i = 0; i < TEXTS; i++) {
            draw = new Random(i);
            officeOnce();
            dayOnce();
        }
        Check.end("FaultTest");
    }

    private static int below(int m) {
        return draw.nextInt(m);
    }

    private static void officeOnce() {
        List<String> words = new ArrayList<>();
        int lines = below(9);
        for (int i = 0; i < lines; i++) {
            int sort = below(8);
            if (sort == 0) {
                words.addAll(List.of("takes", "" + (below(9) == 0 ? below(30) : 1 + below(20)), ";"));
            } else if (sort < 4) {
                words.add("believes");
                law(words, 0);
                words.add(";");
            } else {
                callerLine(words, i);
            }
        }
        spoil(words);
        String given = join(words);
        HeldMusic x = new HeldMusic();
        Check.due("office of '" + given + "'", Check.office(x, given), officeFault(given));
    }

    private static void callerLine(List<String> words, int i) {
        words.addAll(List.of("caller", below(12) == 0 ? "ann" : "n" + (char) ('a' + i), KINDS.get(below(4)),
            "trouble", "" + below(below(20) == 0 ? 12 : 10), "knows"));
        int many = below(15) == 0 ? 7 : 1 + below(6);
        int from = below(10);
        for (int k = 0; k < many; k++) {
            words.add("" + (below(20) == 0 ? below(12) : (from + k) % 10));
        }
        words.addAll(List.of("holds", "" + (below(20) == 0 ? below(40) : 1 + below(30)), ";"));
    }

    private static void law(List<String> words, int depth) {
        int many = 1 + below(4);
        for (int i = 0; i < many; i++) {
            if (i > 0) {
                words.add(List.of("and", "or", "<", "=", "+", "-", "*", "and", "or").get(below(9)));
            }
            int sort = below(5);
            if (sort == 0 && depth < 7) {
                words.add("(");
                law(words, depth + 1);
                words.add(")");
            } else if (sort == 1) {
                int nots = 1 + below(below(3) == 0 ? 6 : 2);
                for (int k = 0; k < nots; k++) {
                    words.add("not");
                }
                words.add(FACTS.get(below(4)));
            } else {
                words.add(sort < 4 ? FACTS.get(below(4)) : "" + below(10000));
            }
        }
    }

    private static void dayOnce() {
        HeldMusic x = new HeldMusic();
        Check.office(x, "caller ann shy trouble 1 knows 1 holds 1;caller bob shy trouble 1 knows 1 holds 1;");
        List<String> words = new ArrayList<>();
        int lines = below(10) == 0 ? 38 + below(5) : below(6);
        for (int i = 0; i < lines; i++) {
            String a = below(30) == 0 ? "cy" : below(2) == 0 ? "ann" : "bob";
            String b = below(30) == 0 ? "cy" : below(9) == 0 ? a : a.equals("ann") ? "bob" : "ann";
            switch (below(4)) {
                case 0: words.addAll(List.of("ring", a, ";")); break;
                case 1: words.addAll(List.of("off", a, ";")); break;
                case 2: words.addAll(List.of("swap", a, b, ";")); break;
                default: words.addAll(List.of("minute", ";")); break;
            }
        }
        spoil(words);
        String given = join(words);
        Check.due("day of '" + given + "'", Check.day(x, given), dayFault(given));
    }

    private static void spoil(List<String> words) {
        int times = below(3);
        for (int i = 0; i < times; i++) {
            String scrap = SCRAPS[below(SCRAPS.length)];
            int where = below(words.size() + 1);
            int how = below(4);
            if (how == 0 || words.isEmpty() || where == words.size()) {
                words.add(where, scrap);
            } else if (how == 1) {
                words.set(where, scrap);
            } else if (how == 2) {
                words.remove(where);
            } else {
                words.subList(where, words.size()).clear();
            }
        }
    }

    private static String join(List<String> words) {
        StringBuilder all = new StringBuilder();
        for (String word : words) {
            all.append(word);
            if (below(12) != 0) {
                all.append(below(8) == 0 ? " \n" : " ");
            }
        }
        return all.length() > 1000 ? all.substring(0, 1000) : all.toString();
    }

    private static void scan(String given) {
        text = given;
        tokens = new ArrayList<>();
        places = new ArrayList<>();
        Matcher m = TOKEN.matcher(given);
        while (m.find()) {
            tokens.add(m.group());
            places.add(m.start());
        }
        at = 0;
        fault = 0;
    }

    private static String token() {
        return at < tokens.size() ? tokens.get(at) : "";
    }

    private static void wrong(int kind) {
        if (fault == 0) {
            fault = kind + 16 * (at < tokens.size() ? places.get(at) : text.length());
        }
    }

    private static boolean isNumber() {
        return token().matches("[0-9]{1,4}");
    }

    private static boolean isName() {
        return token().matches("[a-z]{1,8}") && !RESERVED.contains(token());
    }

    private static void want(String word) {
        if (!token().equals(word)) {
            wrong(1);
        }
        at++;
    }

    private static void wantNumber(int least, int most) {
        if (!isNumber()) {
            wrong(1);
        } else if (Integer.parseInt(token()) < least || Integer.parseInt(token()) > most) {
            wrong(4);
        }
        at++;
    }

    private static int officeFault(String given) {
        scan(given);
        Set<String> names = new HashSet<>();
        Set<String> once = new HashSet<>();
        while (fault == 0 && at < tokens.size()) {
            String word = token();
            if (word.equals("caller")) {
                if (names.size() == 6) {
                    wrong(5);
                }
                at++;
                oneCaller(names);
            } else if (word.equals("takes") || word.equals("believes")) {
                if (!once.add(word)) {
                    wrong(3);
                }
                at++;
                if (word.equals("takes")) {
                    wantNumber(1, 20);
                    want(";");
                } else {
                    oneLaw();
                }
            } else {
                wrong(1);
            }
        }
        return fault;
    }

    private static void oneCaller(Set<String> names) {
        if (!isName()) {
            wrong(1);
        } else if (!names.add(token())) {
            wrong(3);
        }
        at++;
        if (!KINDS.contains(token())) {
            wrong(1);
        }
        at++;
        want("trouble");
        wantNumber(0, 9);
        want("knows");
        List<Integer> known = new ArrayList<>();
        while (fault == 0 && isNumber()) {
            int answer = Integer.parseInt(token());
            if (known.contains(answer)) {
                wrong(3);
            } else if (answer > 9) {
                wrong(4);
            } else if (known.size() == 6) {
                wrong(5);
            }
            known.add(answer);
            at++;
        }
        if (known.isEmpty()) {
            wrong(1);
        }
        want("holds");
        wantNumber(1, 30);
        want(";");
    }

    /** What is open: 'n' a not that waits for its part, '(' before a comparing, '<' behind one. */
    private static void oneLaw() {
        Deque<Character> open = new ArrayDeque<>();
        boolean compared = false;
        boolean wantsPart = true;
        while (fault == 0) {
            String t = token();
            if (wantsPart) {
                boolean given = isNumber() || FACTS.contains(t);
                if (!given && !t.equals("not") && !t.equals("(")) {
                    wrong(1);
                } else if (open.size() >= 5) {
                    wrong(5);
                }
                if (t.equals("not")) {
                    open.push('n');
                } else if (t.equals("(")) {
                    open.push(compared ? '<' : '(');
                    compared = false;
                } else {
                    dropNots(open);
                    wantsPart = false;
                }
            } else if (t.equals("*") || t.equals("+") || t.equals("-")) {
                wantsPart = true;
            } else if ((t.equals("<") || t.equals("=")) && !compared) {
                compared = true;
                wantsPart = true;
            } else if (t.equals("and") || t.equals("or")) {
                compared = false;
                wantsPart = true;
            } else if (t.equals(")") && !open.isEmpty()) {
                compared = open.pop() == '<';
                dropNots(open);
            } else if (t.equals(";") && open.isEmpty()) {
                at++;
                return;
            } else {
                wrong(1);
            }
            at++;
        }
    }

    private static void dropNots(Deque<Character> open) {
        while (!open.isEmpty() && open.peek() == 'n') {
            open.pop();
        }
    }

    private static int dayFault(String given) {
        scan(given);
        int lines = 0;
        while (fault == 0 && at < tokens.size()) {
            String deed = token();
            if (!List.of("ring", "off", "swap", "minute").contains(deed)) {
                wrong(1);
            } else if (lines == 40) {
                wrong(5);
            }
            lines++;
            at++;
            String first = token();
            if (!deed.equals("minute")) {
                oneName("");
            }
            if (deed.equals("swap")) {
                oneName(first);
            }
            want(";");
        }
        return fault;
    }

    private static void oneName(String but) {
        if (!isName()) {
            wrong(1);
        } else if (!token().equals("ann") && !token().equals("bob")) {
            wrong(2);
        } else if (token().equals(but)) {
            wrong(3);
        }
        at++;
    }
}
