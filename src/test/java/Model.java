import java.util.ArrayList;
import java.util.HashMap;
import java.util.List;
import java.util.Map;
import java.util.Set;
import java.util.TreeSet;
import java.util.function.Predicate;

/** The document once more, in the plainest form and with all of the library, to hold the class against. */
final class Model {
    /** A law of whom one believes. */
    interface Law {
        int of(int held, int met, int own, int theirs);
    }

    static final class Person {
        final String name;
        final String kind;
        final int trouble;
        final Set<Integer> knows;
        final int holds;

        Person(String name, String kind, int trouble, Set<Integer> knows, int holds) {
            this.name = name;
            this.kind = kind;
            this.trouble = trouble;
            this.knows = knows;
            this.holds = holds;
        }
    }

    /** How it is: never changed once another state has been made of it. */
    static final class State {
        List<Integer> line = new ArrayList<>();
        Map<Integer, Integer> held = new HashMap<>();
        List<Set<Integer>> has = new ArrayList<>();
        Map<String, Integer> met = new HashMap<>();
        Set<Integer> settled = new TreeSet<>();
        Set<Integer> taken = new TreeSet<>();
        int minute = 0;

        State copy() {
            State s = new State();
            s.line.addAll(line);
            s.held.putAll(held);
            for (Set<Integer> h : has) {
                s.has.add(new TreeSet<>(h));
            }
            s.met.putAll(met);
            s.settled.addAll(settled);
            s.taken.addAll(taken);
            s.minute = minute;
            return s;
        }
    }

    final List<Person> people;
    final int takes;
    final Law law;

    Model(List<Person> people, int takes, Law law) {
        this.people = people;
        this.takes = takes;
        this.law = law;
    }

    State start() {
        State s = new State();
        for (Person p : people) {
            s.has.add(new TreeSet<>(p.knows));
        }
        return s;
    }

    static String pair(int a, int b) {
        return Math.min(a, b) + "&" + Math.max(a, b);
    }

    static boolean ring(State s, int who) {
        if (s.line.contains(who) || s.settled.contains(who)) {
            return false;
        }
        s.line.add(who);
        s.held.put(who, 0);
        return true;
    }

    static boolean off(State s, int who) {
        s.held.remove(who);
        return s.line.remove((Integer) who);
    }

    static boolean swap(State s, int a, int b) {
        int i = s.line.indexOf(a);
        int j = s.line.indexOf(b);
        if (a == b || i < 0 || j < 0) {
            return false;
        }
        s.line.set(i, b);
        s.line.set(j, a);
        return true;
    }

    /** What one says to another. */
    Set<Integer> saying(State s, int teller, int hearer, Integer next) {
        Set<Integer> said = new TreeSet<>(s.has.get(teller));
        String kind = people.get(teller).kind;
        if (kind.equals("shy")) {
            said.removeIf(a -> a != people.get(hearer).trouble);
        }
        if (kind.equals("gossip") && next != null) {
            said.addAll(s.has.get(next));
        }
        return said;
    }

    boolean believed(State s, int teller, int hearer, int met) {
        int held = s.line.contains(hearer) ? s.held.get(hearer) : 0;
        return !people.get(hearer).kind.equals("deaf")
            && law.of(held, met, s.has.get(hearer).size(), s.has.get(teller).size()) != 0;
    }

    private void tells(State s, int teller, int hearer, Integer next) {
        if (believed(s, teller, hearer, s.met.get(pair(teller, hearer)))) {
            s.has.get(hearer).addAll(saying(s, teller, hearer, next));
        }
    }

    Set<Integer> minute(State s, int every) {
        Set<Integer> before = new TreeSet<>(s.settled);
        List<Integer> stand = new ArrayList<>(s.line);
        for (int i = 0; i + 1 < stand.size(); i += 2) {
            s.met.merge(pair(stand.get(i), stand.get(i + 1)), 1, Integer::sum);
        }
        for (int i = 0; i + 1 < stand.size(); i += 2) {
            Integer next = i + 2 < stand.size() ? stand.get(i + 2) : null;
            tells(s, stand.get(i), stand.get(i + 1), next);
            tells(s, stand.get(i + 1), stand.get(i), next);
        }
        for (int who : stand) {
            if (s.has.get(who).contains(people.get(who).trouble)) {
                s.settled.add(who);
                off(s, who);
            }
        }
        for (int who : new ArrayList<>(s.line)) {
            s.held.merge(who, 1, Integer::sum);
            if (s.held.get(who) == people.get(who).holds) {
                off(s, who);
            }
        }
        s.minute++;
        if (s.minute % every == 0 && !s.line.isEmpty()) {
            int who = s.line.get(0);
            s.has.get(who).add(people.get(who).trouble);
            s.settled.add(who);
            s.taken.add(who);
            off(s, who);
        }
        Set<Integer> by = new TreeSet<>(s.settled);
        by.removeAll(before);
        return by;
    }

    /** The states from this one on, a minute apart, till nobody is on the line. */
    List<State> ahead(State from) {
        List<State> all = new ArrayList<>();
        State s = from.copy();
        all.add(s);
        while (!s.line.isEmpty()) {
            s = s.copy();
            minute(s, takes);
            all.add(s);
        }
        return all;
    }

    State last(State from) {
        List<State> all = ahead(from);
        return all.get(all.size() - 1);
    }

    /** Behind how many minutes something is so first; -1: never. */
    int first(State from, Predicate<State> so) {
        List<State> all = ahead(from);
        for (int i = 0; i < all.size(); i++) {
            if (so.test(all.get(i))) {
                return i;
            }
        }
        return -1;
    }

    Set<Integer> free(State s) {
        Set<Integer> free = new TreeSet<>();
        for (int i = 0; i < people.size(); i++) {
            if (!s.line.contains(i) && !s.settled.contains(i)) {
                free.add(i);
            }
        }
        return free;
    }

    /** All orders, the first by numbers first. */
    static List<List<Integer>> orders(Set<Integer> of) {
        List<List<Integer>> all = new ArrayList<>();
        if (of.isEmpty()) {
            all.add(new ArrayList<>());
        }
        for (int head : new TreeSet<>(of)) {
            Set<Integer> rest = new TreeSet<>(of);
            rest.remove(head);
            for (List<Integer> tail : orders(rest)) {
                List<Integer> row = new ArrayList<>();
                row.add(head);
                row.addAll(tail);
                all.add(row);
            }
        }
        return all;
    }

    State withRung(State s, Iterable<Integer> row) {
        State t = s.copy();
        for (int who : row) {
            ring(t, who);
        }
        return t;
    }

    State standing(State s, List<Integer> row) {
        State t = s.copy();
        t.line = new ArrayList<>(row);
        return t;
    }

    static int bits(Iterable<Integer> of) {
        int bits = 0;
        for (int i : of) {
            bits |= 1 << i;
        }
        return bits;
    }

    static Set<Integer> members(int bits) {
        Set<Integer> all = new TreeSet<>();
        for (int i = 0; i < 31; i++) {
            if ((bits & 1 << i) != 0) {
                all.add(i);
            }
        }
        return all;
    }
}
