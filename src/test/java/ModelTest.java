import java.util.ArrayDeque;
import java.util.ArrayList;
import java.util.Deque;
import java.util.HashMap;
import java.util.List;
import java.util.Map;
import java.util.Random;
import java.util.Set;
import java.util.TreeSet;

/** Promises 2 to 36 by runs of calls drawn with fixed seeds, each answer held against the model's. */
public final class ModelTest {
    private static final int RUNS = 4000;
    /** What is promised of one object, and how much of it is left for asking everything at last. */
    private static final int MOST_CALLS = 512;
    private static final int CALLS_AT_LAST = 300;
    private static final String[] KINDS = {"plain", "shy", "gossip", "deaf"};
    private static final String[] NAMES = {"ann", "bob", "held", "met", "own", "theirs", "zz", "q", "abcdefgh"};

    private static final class Laid {
        Model.State state;
        List<int[]> day;
        Map<Integer, Boolean> told;
    }

    private static Random draw;
    private static String run;
    private static int calls;
    private static HeldMusic x;
    private static Model model;
    private static Model.State now;
    private static List<int[]> day;
    private static Map<Integer, Boolean> told;
    private static Deque<Model.State> past;
    private static Map<Integer, Laid> marks;

    public static void main(String[] args) {
        for (int i = 0; i < RUNS; i++) {
            draw = new Random(i);
            run = "run " + i + ": ";
            x = new HeldMusic();
            calls = 0;
            newOffice();
            // Where nothing is asked between, far more can be done, and undone.
            boolean asks = below(3) != 0;
            int steps = below(asks ? 40 : 200);
            for (int step = 0; step < steps && calls < MOST_CALLS - CALLS_AT_LAST; step++) {
                change();
                if (asks) {
                    askSome();
                }
            }
            askCheap();
            askDear();
            Check.due(run + "calls", calls <= MOST_CALLS, true);
        }
        Check.end("ModelTest");
    }

    private static void due(String call, long got, long want) {
        calls++;
        Check.due(run + call, got, want);
    }

    private static void due(String call, boolean got, boolean want) {
        calls++;
        Check.due(run + call, got, want);
    }

    /** The calls by which a text is fed, its reading not among them. */
    private static int callsToFeed(String text) {
        return 1 + (text.length() + 23) / 24;
    }

    private static int below(int m) {
        return draw.nextInt(m);
    }

    private static String blank() {
        return new String[] {" ", "  ", "\n", " \n "}[below(4)];
    }

    private static void newOffice() {
        int many = below(8) == 0 ? below(7) : 3 + below(4);
        int answers = 2 + below(9);
        List<String> names = new ArrayList<>(List.of(NAMES));
        List<String> lines = new ArrayList<>();
        List<Model.Person> people = new ArrayList<>();
        boolean longHolds = below(3) == 0;
        for (int i = 0; i < many; i++) {
            Set<Integer> knows = new TreeSet<>();
            int wanted = 1 + below(below(3) == 0 ? 6 : 2);
            StringBuilder told = new StringBuilder();
            for (int k = 0; k < wanted; k++) {
                int answer = below(answers);
                if (knows.add(answer)) {
                    told.append(blank()).append(answer);
                }
            }
            String kind = KINDS[below(4)];
            Model.Person p = new Model.Person(names.remove(below(names.size())), kind, below(answers), knows,
                longHolds ? 1 + below(30) : 1 + below(8));
            people.add(p);
            lines.add("caller" + blank() + p.name + blank() + p.kind + blank() + "trouble" + blank() + p.trouble
                + blank() + "knows" + told + blank() + "holds" + blank() + p.holds + ";");
        }
        int takes = 5;
        if (below(4) != 0) {
            takes = 1 + below(20);
            lines.add(below(lines.size() + 1), "takes " + takes + ";");
        }
        Model.Law law = (held, met, own, theirs) -> 1;
        if (below(4) != 0) {
            StringBuilder text = new StringBuilder();
            law = wholeTest(text, 0);
            lines.add(below(lines.size() + 1), "believes " + text + ";");
        }
        String text = String.join("", lines);
        if (text.length() > 1000) {
            newOffice();
            return;
        }
        calls += callsToFeed(text);
        due("office of " + text, Check.office(x, text), 0);
        model = new Model(people, takes, law);
        now = model.start();
        day = new ArrayList<>();
        told = new HashMap<>();
        past = new ArrayDeque<>();
        marks = new HashMap<>();
    }

    private static int truth(boolean so) {
        return so ? 1 : 0;
    }

    private static Model.Law wholeTest(StringBuilder text, int depth) {
        Model.Law left = test(text, depth);
        while (below(3) == 0) {
            boolean and = below(2) == 0;
            text.append(and ? " and " : " or ");
            Model.Law a = left;
            Model.Law b = test(text, depth);
            left = (h, m, o, t) -> {
                boolean first = a.of(h, m, o, t) != 0;
                boolean second = b.of(h, m, o, t) != 0;
                return truth(and ? first && second : first || second);
            };
        }
        return left;
    }

    private static Model.Law test(StringBuilder text, int depth) {
        Model.Law a = sum(text, depth);
        if (below(2) == 0) {
            return a;
        }
        boolean less = below(3) != 0;
        text.append(less ? "<" : "=");
        Model.Law b = sum(text, depth);
        return (h, m, o, t) -> truth(less ? a.of(h, m, o, t) < b.of(h, m, o, t) : a.of(h, m, o, t) == b.of(h, m, o, t));
    }

    private static Model.Law sum(StringBuilder text, int depth) {
        Model.Law left = product(text, depth);
        while (below(3) == 0) {
            boolean plus = below(2) == 0;
            text.append(plus ? "+" : "-");
            Model.Law a = left;
            Model.Law b = product(text, depth);
            left = (h, m, o, t) -> plus ? a.of(h, m, o, t) + b.of(h, m, o, t) : a.of(h, m, o, t) - b.of(h, m, o, t);
        }
        return left;
    }

    private static Model.Law product(StringBuilder text, int depth) {
        Model.Law left = part(text, depth);
        while (below(5) == 0) {
            text.append("*");
            Model.Law a = left;
            Model.Law b = part(text, depth);
            left = (h, m, o, t) -> a.of(h, m, o, t) * b.of(h, m, o, t);
        }
        return left;
    }

    private static Model.Law part(StringBuilder text, int depth) {
        int sort = below(depth < 4 ? 8 : 6);
        switch (sort) {
            case 0: text.append(" held "); return (h, m, o, t) -> h;
            case 1: text.append(" met "); return (h, m, o, t) -> m;
            case 2: text.append(" own "); return (h, m, o, t) -> o;
            case 3: text.append(" theirs "); return (h, m, o, t) -> t;
            case 4: case 5:
                int number = below(below(10) == 0 ? 10000 : 8);
                text.append(number);
                return (h, m, o, t) -> number;
            case 6: {
                text.append(" not ");
                Model.Law a = part(text, depth + 1);
                return (h, m, o, t) -> truth(a.of(h, m, o, t) == 0);
            }
            default: {
                text.append("(");
                Model.Law a = wholeTest(text, depth + 1);
                text.append(")");
                return a;
            }
        }
    }

    private static int anyone() {
        return below(10) == 0 ? below(12) - 3 : below(Math.max(1, model.people.size()));
    }

    private static boolean isCaller(int who) {
        return who >= 0 && who < model.people.size();
    }

    private static void keep(Model.State before) {
        past.push(before);
        if (past.size() > 16) {
            past.removeLast();
        }
    }

    private static void change() {
        Model.State before = now.copy();
        int a = anyone();
        int b = anyone();
        switch (below(18)) {
            case 0: case 1: case 2: case 3: case 4: case 5: {
                boolean can = isCaller(a) && Model.ring(now, a);
                due("ring " + a, x.ring(a), can ? now.line.size() - 1 : -1);
                if (can) {
                    keep(before);
                }
                break;
            }
            case 6: {
                boolean can = isCaller(a) && Model.off(now, a);
                due("off " + a, x.off(a), can);
                if (can) {
                    keep(before);
                }
                break;
            }
            case 7: case 8: {
                boolean can = isCaller(a) && isCaller(b) && Model.swap(now, a, b);
                due("swap " + a + " " + b, x.swap(a, b), can);
                if (can) {
                    keep(before);
                }
                break;
            }
            case 9: case 10: case 11:
                due("minute", x.minute(), Model.bits(model.minute(now, model.takes)));
                keep(before);
                break;
            case 12: {
                boolean can = !past.isEmpty();
                due("undo", x.undo(), can);
                if (can) {
                    now = past.pop();
                }
                break;
            }
            case 13: {
                boolean settled = below(2) == 0;
                due("tell " + a, x.tell(a, settled), isCaller(a));
                if (isCaller(a)) {
                    told.put(a, settled);
                }
                break;
            }
            case 14:
                goMarks();
                break;
            case 15:
                if (below(3) == 0) {
                    newOffice();
                }
                break;
            case 16:
                wrongText(below(2) == 0);
                break;
            default:
                newDay();
                break;
        }
    }

    /** A text with a fault at its last sign, behind which all stays. */
    private static void wrongText(boolean office) {
        String text = office ? "takes 7;caller q shy trouble 1 knows 2 holds 3;believes 0;?" : "minute;minute;?";
        calls += callsToFeed(text);
        int fault = office ? Check.office(x, text) : Check.day(x, text);
        due("wrong text", fault, Check.fault(1, text.length() - 1));
    }

    private static void goMarks() {
        int i = below(6) - 1;
        boolean back = below(2) == 0;
        boolean can = i >= 0 && i < 4 && (!back || marks.containsKey(i));
        due("mark " + i + " " + back, x.mark(i, back), can);
        if (can && back) {
            Laid laid = marks.get(i);
            now = laid.state.copy();
            day = laid.day;
            told = new HashMap<>(laid.told);
            past.clear();
        } else if (can) {
            Laid laid = new Laid();
            laid.state = now.copy();
            laid.day = day;
            laid.told = new HashMap<>(told);
            marks.put(i, laid);
        }
    }

    private static void newDay() {
        int callers = model.people.size();
        List<int[]> lines = new ArrayList<>();
        StringBuilder text = new StringBuilder();
        int many = below(41);
        for (int i = 0; i < many; i++) {
            int deed = callers == 0 ? 3 : below(6);
            int a = callers == 0 ? 0 : below(callers);
            int b = callers == 0 ? 0 : below(callers);
            if (deed == 2 && a == b) {
                deed = 1;
            }
            if (deed > 3) {
                deed -= deed == 4 ? 4 : 2;
            }
            String first = callers == 0 ? "" : model.people.get(a).name;
            String second = callers == 0 ? "" : model.people.get(b).name;
            switch (deed) {
                case 0: text.append("ring ").append(first); break;
                case 1: text.append("off ").append(first); break;
                case 2: text.append("swap ").append(first).append(blank()).append(second); break;
                default: text.append("minute"); break;
            }
            text.append(";");
            lines.add(new int[] {deed, a, b});
        }
        if (text.length() <= 1000) {
            calls += callsToFeed(text.toString());
            due("day of " + text, Check.day(x, text.toString()), 0);
            day = lines;
        }
    }

    private static int[] judge(int takes) {
        int[] judged = {-1, -1, 0};
        Model.State s = model.start();
        for (int i = 0; i < day.size(); i++) {
            int[] line = day.get(i);
            boolean can = true;
            switch (line[0]) {
                case 0: can = Model.ring(s, line[1]); break;
                case 1: can = Model.off(s, line[1]); break;
                case 2: can = Model.swap(s, line[1], line[2]); break;
                default:
                    if (!model.minute(s, takes).isEmpty() && judged[1] < 0) {
                        judged[1] = i;
                    }
                    break;
            }
            if (!can && judged[0] < 0) {
                judged[0] = i;
            }
        }
        judged[2] = s.settled.size();
        return judged;
    }

    private static int answers(Model.State s) {
        return s.has.stream().mapToInt(Set::size).sum();
    }

    private static int holders(Model.State s, int answer) {
        int bits = 0;
        for (int i = 0; i < s.has.size(); i++) {
            bits |= s.has.get(i).contains(answer) ? 1 << i : 0;
        }
        return bits;
    }

    /** A part of all that can be asked, so that an answer kept too long shows. */
    private static void askSome() {
        switch (below(8)) {
            case 0: askCaller(anyone()); break;
            case 1: askTwo(anyone(), anyone()); break;
            case 2: askLostAndWisest(); break;
            case 3: askDays(); break;
            case 4: askOrder(); break;
            case 5: askDealAndChance(); break;
            case 6: askSets(); break;
            default: due("empty", x.empty(), model.ahead(now).size() - 1); break;
        }
    }

    private static void askCheap() {
        int[] counts = {model.people.size(), model.takes, now.minute, now.line.size(), Model.bits(now.line),
            Model.bits(now.settled), answers(now), Model.bits(now.taken), day.size(), told.size(), past.size(), 0, -1};
        for (int what = 0; what < counts.length; what++) {
            due("count " + what, x.count(what), counts[what]);
        }
        due("count -1", x.count(-1), -1);
        for (int i = -1; i < 8; i++) {
            due("line " + i, x.line(i), i >= 0 && i < now.line.size() ? now.line.get(i) : -1);
        }
        for (int i = -1; i <= model.people.size(); i++) {
            askCaller(i);
        }
        int a = anyone();
        int b = anyone();
        askTwo(a, b);
        int[] judged = judge(model.takes);
        for (int what = -1; what < 4; what++) {
            due("judged " + what, x.judged(what), what >= 0 && what < 3 ? judged[what] : -2);
        }
        int takes = below(23) - 1;
        due("other " + takes, x.other(takes), takes >= 1 && takes <= 20 ? judge(takes)[2] : -1);
        due("empty", x.empty(), model.ahead(now).size() - 1);
        int answer = below(13) - 1;
        boolean is = answer >= 0 && answer < 10;
        due("holders " + answer, x.holders(answer), is ? holders(now, answer) : -1);
        due("spread " + answer, x.spread(answer), is ? holders(model.last(now), answer) : -1);
        askLostAndWisest();
        askDays();
    }

    private static void askCaller(int i) {
        boolean is = isCaller(i);
        Model.Person p = is ? model.people.get(i) : null;
        int place = now.line.indexOf(i);
        int[] want = {is ? List.of(KINDS).indexOf(p.kind) : 0, is ? p.trouble : 0, is ? p.holds : 0,
            is ? Model.bits(now.has.get(i)) : 0, now.settled.contains(i) ? 1 : 0, place, place < 0 ? 0 : now.held.get(i)};
        for (int what = -1; what < 8; what++) {
            due("caller " + i + " " + what, x.caller(i, what), is && what >= 0 && what < 7 ? want[what] : -2);
        }
        int partner = place % 2 == 0 ? place + 1 : place - 1;
        due("next " + i, x.next(i), place >= 0 && partner < now.line.size() ? now.line.get(partner) : -1);
        due("when " + i, x.when(i), is ? model.first(now, s -> s.settled.contains(i)) : -1);
        due("gone " + i, x.gone(i), place >= 0 ? model.first(now, s -> !s.line.contains(i)) : -1);
        int usual = -1;
        for (int j = 0; is && j < model.people.size(); j++) {
            int times = now.met.getOrDefault(Model.pair(i, j), 0);
            if (times > 0 && (usual < 0 || times > now.met.get(Model.pair(i, usual)))) {
                usual = j;
            }
        }
        due("usual " + i, x.usual(i), usual);
    }

    private static void askTwo(int a, int b) {
        boolean two = isCaller(a) && isCaller(b) && a != b;
        int met = now.met.getOrDefault(Model.pair(a, b), 0);
        due("met " + a + " " + b, x.met(a, b), two ? met : -1);
        due("meets " + a + " " + b, x.meets(a, b),
            two ? model.first(now, s -> s.met.getOrDefault(Model.pair(a, b), 0) > met) : -1);
        int heard = -1;
        if (two) {
            Set<Integer> said = model.saying(now, b, a, null);
            said.removeAll(now.has.get(a));
            heard = model.believed(now, b, a, met + 1) ? Model.bits(said) : 0;
        }
        due("hears " + a + " " + b, x.hears(a, b), heard);
    }

    private static void askLostAndWisest() {
        int lost = 0;
        for (int who : now.line) {
            int trouble = model.people.get(who).trouble;
            if (now.line.stream().noneMatch(other -> now.has.get(other).contains(trouble))) {
                lost |= 1 << who;
            }
        }
        due("lost", x.lost(), lost);
        int wisest = -1;
        for (int i = 0; i < now.has.size(); i++) {
            if (wisest < 0 || now.has.get(i).size() > now.has.get(wisest).size()) {
                wisest = i;
            }
        }
        due("wisest", x.wisest(), wisest);
    }

    private static void askDays() {
        int seed = below(10003) - 1;
        int minutes = below(below(2) == 0 ? 8 : 102);
        int what = below(5) - 1;
        int want = -1;
        if (seed >= 0 && seed <= 9999 && minutes >= 1 && minutes <= 99 && what >= 0 && what <= 2) {
            Model.State s = now.copy();
            long g = seed;
            for (int i = 0; i < minutes; i++) {
                if (!model.people.isEmpty()) {
                    g = g * 1103515245L + 12345L & 0x7fffffffL;
                    int who = (int) ((g >> 16) % model.people.size());
                    boolean held = s.line.contains(who);
                    if (!Model.ring(s, who) && held) {
                        g = g * 1103515245L + 12345L & 0x7fffffffL;
                        if ((g >> 16) % 4 == 0) {
                            Model.off(s, who);
                        }
                    }
                }
                model.minute(s, model.takes);
            }
            int[] all = {s.settled.size() - now.settled.size(), Model.bits(s.line), answers(s)};
            want = all[what];
        }
        due("days " + seed + " " + minutes + " " + what, x.days(seed, minutes, what), want);
    }

    private static void askDear() {
        askOrder();
        askDealAndChance();
        askSets();
    }

    private static void dueRow(String call, int most, List<Integer> row, boolean order) {
        for (int what = -3; what < 8; what++) {
            int want = what == -1 ? most : what >= 0 && what < row.size() ? row.get(what) : -2;
            due(call + " " + what, order ? x.order(what) : x.deal(what), want);
        }
    }

    private static void askOrder() {
        int most = -1;
        List<Integer> best = null;
        for (List<Integer> row : Model.orders(model.free(now))) {
            int many = model.last(model.withRung(now, row)).settled.size();
            if (many > most) {
                most = many;
                best = row;
            }
        }
        dueRow("order", most, best, true);
    }

    private static void askDealAndChance() {
        int most = -1;
        List<Integer> best = null;
        List<List<Integer>> rows = Model.orders(new TreeSet<>(now.line));
        int[] good = new int[8];
        for (List<Integer> row : rows) {
            Set<Integer> settled = model.minute(model.standing(now, row), model.takes);
            for (int who : settled) {
                good[who]++;
            }
            if (settled.size() > most) {
                most = settled.size();
                best = row;
            }
        }
        dueRow("deal", most, best, false);
        for (int i = -1; i <= model.people.size(); i++) {
            due("chance " + i, x.chance(i), now.line.contains(i) ? (int) (good[i] * 1000000L / rows.size()) : -1);
        }
    }

    private static void askSets() {
        int free = Model.bits(model.free(now));
        Map<Integer, Set<Integer>> settledBy = new HashMap<>();
        List<Integer> fits = new ArrayList<>();
        for (int set = 0; set < 64; set++) {
            if ((set | free) != free) {
                continue;
            }
            Set<Integer> settled = model.last(model.withRung(now, Model.members(set))).settled;
            settledBy.put(set, settled);
            if (told.entrySet().stream().allMatch(e -> settled.contains(e.getKey()) == e.getValue())) {
                fits.add(set);
            }
        }
        due("sets 0", x.sets(0), fits.size());
        due("sets 1", x.sets(1), fits.stream().reduce((a, b) -> a & b).orElse(-1));
        due("sets 2", x.sets(2), fits.stream().reduce((a, b) -> a | b).orElse(-1));
        due("sets 3", x.sets(3), -1);
        due("sets -1", x.sets(-1), -1);
        int ask = -1;
        int least = fits.size();
        for (int i = 0; i < model.people.size(); i++) {
            int who = i;
            int by = (int) fits.stream().filter(f -> settledBy.get(f).contains(who)).count();
            int greater = Math.max(by, fits.size() - by);
            if (!told.containsKey(i) && greater < least) {
                least = greater;
                ask = i;
            }
        }
        due("ask", x.ask(), ask);
        for (int i = -1; i <= model.people.size(); i++) {
            int who = i;
            int best = -1;
            for (int set : new TreeSet<>(settledBy.keySet())) {
                boolean helps = now.line.contains(who) && settledBy.get(set).contains(who);
                if (helps && (best < 0 || Integer.bitCount(set) < Integer.bitCount(best))) {
                    best = set;
                }
            }
            due("helpers " + i, x.helpers(i), best);
        }
    }
}
