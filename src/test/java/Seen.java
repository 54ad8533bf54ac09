/** What can be seen of an object without changing it, but for its tape, as one text to be held against another. */
final class Seen {
    private Seen() {
    }

    /** Some 150 calls: an object is promised for 512. */
    static String of(HeldMusic x) {
        StringBuilder all = new StringBuilder();
        for (int what = 0; what <= 10; what++) {
            add(all, "count" + what, x.count(what));
        }
        for (int who = 0; who < x.count(0); who++) {
            for (int what = 0; what <= 6; what++) {
                add(all, who + "." + what, x.caller(who, what));
            }
            for (int other = 0; other < x.count(0); other++) {
                add(all, who + "&" + other, x.met(who, other));
            }
        }
        for (int i = 0; i < x.count(3); i++) {
            add(all, "line" + i, x.line(i));
        }
        for (int what = 0; what <= 2; what++) {
            add(all, "judged" + what, x.judged(what));
            add(all, "sets" + what, x.sets(what));
        }
        if (x.count(0) > 1) {
            // By which a law that has changed shows.
            add(all, "hears", x.hears(0, 1));
        }
        return all.toString();
    }

    private static void add(StringBuilder all, String what, int is) {
        all.append(what).append(' ').append(is).append('\n');
    }

    /** Both are alike; where not, the first line of each that differs is told. */
    static void same(String call, String got, String want) {
        String[] gotLines = got.split("\n");
        String[] wantLines = want.split("\n");
        String where = "";
        for (int i = 0; i < Math.min(gotLines.length, wantLines.length) && where.isEmpty(); i++) {
            if (!gotLines[i].equals(wantLines[i])) {
                where = ": " + gotLines[i] + " for " + wantLines[i];
            }
        }
        Check.due(call + where, got.equals(want), true);
    }
}
