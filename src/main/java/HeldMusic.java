import java.util.NoSuchElementException;

/** An office whose callers are put through to one another while they hold, as the document tells. */
public final class HeldMusic {
    public static final int NONE = -1;

    private static final int NO_SUCH = -2;
    private static final int MOST_CALLERS = 6;
    private static final int MOST_SETS = 64;
    private static final int MOST_ROWS = 720;
    private static final int MOST_ANSWERS = 6;
    private static final int LAST_ANSWER = 9;
    private static final int LONGEST_HOLD = 30;
    private static final int MOST_TAKES = 20;
    private static final int FIRST_TAKES = 5;
    private static final int MOST_SIGNS = 1000;
    private static final int MOST_LINES = 40;
    private static final int MOST_UNDONE = 16;
    private static final int MOST_MARKS = 4;
    private static final int LAST_SEED = 9999;
    private static final int MOST_MINUTES = 99;
    private static final int MOST_GAIN = 9;
    private static final int MILLION = 1000000;

    private static final int PLAIN = 0;
    private static final int SHY = 1;
    private static final int GOSSIP = 2;
    private static final int DEAF = 3;

    private static final int DEED_RING = 0;
    private static final int DEED_OFF = 1;
    private static final int DEED_SWAP = 2;
    private static final int DEED_MINUTE = 3;

    private final Reader reader = new Reader();
    // What is read goes into the draft, which takes the other's place only without a fault.
    private Desk desk = new Desk();
    private Desk deskDraft = new Desk();
    private Plan plan = new Plan();
    private Plan planDraft = new Plan();
    private final Hall now = new Hall();
    private final Hall trial = new Hall();
    private final Hall[] past = new Hall[MOST_UNDONE];
    private int pastSize;
    private int pastEnd;
    private final Mark[] marks = new Mark[MOST_MARKS];
    private int told;
    private int toldSettled;
    private final Rows orders = new Rows();
    private final Rows deals = new Rows();
    private final int[] tally = new int[MOST_CALLERS];

    public HeldMusic() {
        for (int i = 0; i < past.length; i++) {
            past[i] = new Hall();
        }
        for (int i = 0; i < marks.length; i++) {
            marks[i] = new Mark();
        }
    }

    public int feed(long a, long b, long c) {
        reader.tape.write(a);
        reader.tape.write(b);
        reader.tape.write(c);
        return reader.tape.length;
    }

    public int office() {
        int fault = reader.readOffice(deskDraft);
        if (fault == 0) {
            openDraft();
        }
        return fault;
    }

    public int day() {
        int fault = reader.readDay(planDraft, desk);
        if (fault == 0) {
            Plan older = plan;
            plan = planDraft;
            planDraft = older;
        }
        return fault;
    }

    public int caller(int caller, int what) {
        if (!isCaller(caller)) {
            return NO_SUCH;
        }
        switch (what) {
            case 0: return desk.kind[caller];
            case 1: return desk.trouble[caller];
            case 2: return desk.holds[caller];
            case 3: return now.has[caller];
            case 4: return now.settled >> caller & 1;
            case 5: return now.placeOf(caller);
            case 6: return now.held[caller];
            default: return NO_SUCH;
        }
    }

    public int met(int caller, int other) {
        return areTwo(caller, other) ? now.talks[caller * MOST_CALLERS + other] : NONE;
    }

    public int line(int i) {
        return i >= 0 && i < now.length ? now.waits[i] : NONE;
    }

    public int ring(int caller) {
        if (!isCaller(caller) || !now.canRing(caller)) {
            return NONE;
        }
        keepPast();
        now.comeToEnd(caller);
        return now.length - 1;
    }

    public boolean off(int caller) {
        if (!isOnLine(caller)) {
            return false;
        }
        keepPast();
        now.leave(caller);
        return true;
    }

    public boolean swap(int caller, int other) {
        if (caller == other || !isOnLine(caller) || !isOnLine(other)) {
            return false;
        }
        keepPast();
        now.changePlaces(caller, other);
        return true;
    }

    public int minute() {
        keepPast();
        return now.passMinute(desk, desk.takes);
    }

    public boolean undo() {
        if (pastSize == 0) {
            return false;
        }
        pastSize--;
        pastEnd = (pastEnd + MOST_UNDONE - 1) % MOST_UNDONE;
        now.copyFrom(past[pastEnd]);
        orders.known = false;
        return true;
    }

    public int judged(int what) {
        return what < 0 || what > 2 ? NO_SUCH : judgeDay(desk.takes, what);
    }

    public int next(int caller) {
        if (!isOnLine(caller)) {
            return NONE;
        }
        int partner = now.placeOf(caller) ^ 1;
        return partner < now.length ? now.waits[partner] : NONE;
    }

    public int when(int caller) {
        if (!isCaller(caller)) {
            return NONE;
        }
        trial.copyFrom(now);
        int passed = 0;
        while (passed < LONGEST_HOLD && trial.length > 0 && !trial.isSettled(caller)) {
            trial.passMinute(desk, desk.takes);
            passed++;
        }
        return trial.isSettled(caller) ? passed : NONE;
    }

    public int empty() {
        trial.copyFrom(now);
        return trial.runOut(desk);
    }

    public int meets(int caller, int other) {
        if (!areTwo(caller, other)) {
            return NONE;
        }
        int pair = caller * MOST_CALLERS + other;
        trial.copyFrom(now);
        for (int passed = 1; passed <= LONGEST_HOLD && trial.length > 0; passed++) {
            trial.passMinute(desk, desk.takes);
            if (trial.talks[pair] > now.talks[pair]) {
                return passed;
            }
        }
        return NONE;
    }

    public int spread(int answer) {
        if (!isAnswer(answer)) {
            return NONE;
        }
        trial.copyFrom(now);
        trial.runOut(desk);
        return trial.whoHas(answer, desk.callers);
    }

    public int order(int what) {
        if (!orders.known) {
            findOrder();
        }
        return orders.answerTo(what);
    }

    public int helpers(int caller) {
        if (!isOnLine(caller)) {
            return NONE;
        }
        int free = freeCallers();
        int fewest = MOST_CALLERS + 1;
        int best = NONE;
        for (int set = 0; set < MOST_SETS; set++) {
            boolean better = (set & ~free) == 0 && Integer.bitCount(set) < fewest;
            if (better && (settledWith(set) >> caller & 1) == 1) {
                fewest = Integer.bitCount(set);
                best = set;
            }
        }
        return best;
    }

    public int gone(int caller) {
        if (!isOnLine(caller)) {
            return NONE;
        }
        trial.copyFrom(now);
        int passed = 0;
        while (passed < LONGEST_HOLD && trial.placeOf(caller) != NONE) {
            trial.passMinute(desk, desk.takes);
            passed++;
        }
        return passed;
    }

    public int holders(int answer) {
        return isAnswer(answer) ? now.whoHas(answer, desk.callers) : NONE;
    }

    public int hears(int caller, int other) {
        if (!areTwo(caller, other)) {
            return NONE;
        }
        int times = now.talks[caller * MOST_CALLERS + other] + 1;
        return now.heard(desk, other, caller, NONE, times);
    }

    public int deal(int what) {
        deals.begin(now.lineBits());
        boolean more = true;
        for (int tried = 0; more && tried < MOST_ROWS; tried++) {
            deals.weigh(Integer.bitCount(settledNextBy(deals)));
            more = deals.most < deals.size && deals.advance();
        }
        return deals.answerTo(what);
    }

    public int usual(int caller) {
        if (!isCaller(caller)) {
            return NONE;
        }
        int most = 0;
        int best = NONE;
        for (int other = 0; other < desk.callers; other++) {
            int times = now.talks[caller * MOST_CALLERS + other];
            if (times > most) {
                most = times;
                best = other;
            }
        }
        return best;
    }

    public int lost() {
        int known = 0;
        for (int i = 0; i < now.length; i++) {
            known |= now.has[now.waits[i]];
        }
        int bits = 0;
        for (int i = 0; i < now.length; i++) {
            int who = now.waits[i];
            if ((known >> desk.trouble[who] & 1) == 0) {
                bits |= 1 << who;
            }
        }
        return bits;
    }

    public int wisest() {
        int most = -1;
        int best = NONE;
        for (int who = 0; who < desk.callers; who++) {
            int many = Integer.bitCount(now.has[who]);
            if (many > most) {
                most = many;
                best = who;
            }
        }
        return best;
    }

    public boolean tell(int caller, boolean settled) {
        if (!isCaller(caller)) {
            return false;
        }
        int bit = 1 << caller;
        told |= bit;
        toldSettled = settled ? toldSettled | bit : toldSettled & ~bit;
        return true;
    }

    public int sets(int what) {
        if (what < 0 || what > 2) {
            return NONE;
        }
        int free = freeCallers();
        int many = 0;
        int inAll = free;
        int inSome = 0;
        for (int set = 0; set < MOST_SETS; set++) {
            if ((set & ~free) == 0 && isAsTold(settledWith(set))) {
                many++;
                inAll &= set;
                inSome |= set;
            }
        }
        if (what == 0) {
            return many;
        }
        if (many == 0) {
            return NONE;
        }
        return what == 1 ? inAll : inSome;
    }

    public int ask() {
        int many = 0;
        for (int who = 0; who < tally.length; who++) {
            tally[who] = 0;
        }
        int free = freeCallers();
        for (int set = 0; set < MOST_SETS; set++) {
            int settled = (set & ~free) == 0 ? settledWith(set) : NONE;
            if (settled != NONE && isAsTold(settled)) {
                many++;
                addToTally(settled);
            }
        }
        return evenestUntold(many);
    }

    public int chance(int caller) {
        if (!isOnLine(caller)) {
            return NONE;
        }
        int all = 0;
        int good = 0;
        deals.begin(now.lineBits());
        boolean more = true;
        while (more && all < MOST_ROWS) {
            good += settledNextBy(deals) >> caller & 1;
            all++;
            more = deals.advance();
        }
        return all > 0 ? good * MILLION / all : 0;
    }

    public int other(int takes) {
        return takes < 1 || takes > MOST_TAKES ? NONE : judgeDay(takes, 2);
    }

    public int rests(int both, int says, int listens, int what) throws NoSuchElementException {
        if (!isGain(both) || !isGain(says) || !isGain(listens) || what < NONE) {
            throw new NoSuchElementException();
        }
        int found = 0;
        for (int choices = 0; choices < 4; choices++) {
            int first = choices >> 1;
            int second = choices & 1;
            int firstGain = gainOf(first, second, both, says, listens);
            int secondGain = gainOf(second, first, both, says, listens);
            if (firstGain >= gainOf(1 - first, second, both, says, listens)
                    && secondGain >= gainOf(1 - second, first, both, says, listens)) {
                if (found == what) {
                    return choices;
                }
                found++;
            }
        }
        if (what != NONE) {
            throw new NoSuchElementException();
        }
        return found;
    }

    public int days(int seed, int minutes, int what) {
        boolean known = seed >= 0 && seed <= LAST_SEED && minutes >= 1 && minutes <= MOST_MINUTES;
        if (!known || what < 0 || what > 2) {
            return NONE;
        }
        trial.copyFrom(now);
        long drawn = seed;
        int helped = 0;
        for (int i = 0; i < minutes; i++) {
            drawn = actByDraw(drawn);
            helped += Integer.bitCount(trial.passMinute(desk, desk.takes));
        }
        if (what == 0) {
            return helped;
        }
        return what == 1 ? trial.lineBits() : trial.answersInAll(desk.callers);
    }

    public boolean mark(int mark, boolean back) {
        if (mark < 0 || mark >= MOST_MARKS || back && !marks[mark].laid) {
            return false;
        }
        if (back) {
            goBackTo(marks[mark]);
        } else {
            layOn(marks[mark]);
        }
        return true;
    }

    public int count(int what) {
        switch (what) {
            case 0: return desk.callers;
            case 1: return desk.takes;
            case 2: return now.minute;
            case 3: return now.length;
            case 4: return now.lineBits();
            case 5: return now.settled;
            case 6: return now.answersInAll(desk.callers);
            case 7: return now.taken;
            case 8: return plan.lines;
            case 9: return Integer.bitCount(told);
            case 10: return pastSize;
            case 11: return reader.tape.length;
            default: return NONE;
        }
    }

    private boolean isCaller(int who) {
        return who >= 0 && who < desk.callers;
    }

    private boolean isOnLine(int who) {
        return isCaller(who) && now.placeOf(who) != NONE;
    }

    private boolean areTwo(int who, int whom) {
        return isCaller(who) && isCaller(whom) && who != whom;
    }

    private static boolean isAnswer(int answer) {
        return answer >= 0 && answer <= LAST_ANSWER;
    }

    private static boolean isGain(int gain) {
        return gain >= 0 && gain <= MOST_GAIN;
    }

    private void openDraft() {
        Desk older = desk;
        desk = deskDraft;
        deskDraft = older;
        now.begin(desk);
        plan.lines = 0;
        told = 0;
        toldSettled = 0;
        pastSize = 0;
        orders.known = false;
        for (int i = 0; i < marks.length; i++) {
            marks[i].laid = false;
        }
    }

    /** Stands ahead of every change by hand, so what was found of the orders is stale as well. */
    private void keepPast() {
        past[pastEnd].copyFrom(now);
        pastEnd = (pastEnd + 1) % MOST_UNDONE;
        pastSize = Math.min(pastSize + 1, MOST_UNDONE);
        orders.known = false;
    }

    private void layOn(Mark mark) {
        mark.laid = true;
        mark.hall.copyFrom(now);
        mark.plan.copyFrom(plan);
        mark.told = told;
        mark.toldSettled = toldSettled;
    }

    private void goBackTo(Mark mark) {
        now.copyFrom(mark.hall);
        plan.copyFrom(mark.plan);
        told = mark.told;
        toldSettled = mark.toldSettled;
        pastSize = 0;
        orders.known = false;
    }

    private int judgeDay(int takes, int what) {
        int firstLeftOut = NONE;
        int firstSettling = NONE;
        trial.begin(desk);
        for (int i = 0; i < plan.lines; i++) {
            int before = trial.settled;
            if (!doLine(i, takes) && firstLeftOut == NONE) {
                firstLeftOut = i;
            }
            if (trial.settled != before && firstSettling == NONE) {
                firstSettling = i;
            }
        }
        if (what == 2) {
            return Integer.bitCount(trial.settled);
        }
        return what == 0 ? firstLeftOut : firstSettling;
    }

    /** Does a line of the day in the trial, if it can be. */
    private boolean doLine(int i, int takes) {
        int who = plan.who[i];
        int whom = plan.whom[i];
        boolean can = true;
        switch (plan.deed[i]) {
            case DEED_RING:
                can = trial.canRing(who);
                if (can) {
                    trial.comeToEnd(who);
                }
                break;
            case DEED_OFF:
                can = trial.placeOf(who) != NONE;
                trial.leave(who);
                break;
            case DEED_SWAP:
                can = trial.placeOf(who) != NONE && trial.placeOf(whom) != NONE;
                trial.changePlaces(who, whom);
                break;
            default:
                trial.passMinute(desk, takes);
                break;
        }
        return can;
    }

    /** Those who are neither on the line nor settled. */
    private int freeCallers() {
        return (1 << desk.callers) - 1 & ~now.lineBits() & ~now.settled;
    }

    /** Who is settled at last if all of a set ring now, by numbers. */
    private int settledWith(int set) {
        trial.copyFrom(now);
        for (int who = 0; who < desk.callers; who++) {
            if ((set >> who & 1) == 1) {
                trial.comeToEnd(who);
            }
        }
        trial.runOut(desk);
        return trial.settled;
    }

    private boolean isAsTold(int settled) {
        return ((settled ^ toldSettled) & told) == 0;
    }

    private void addToTally(int settled) {
        for (int who = 0; who < tally.length; who++) {
            tally[who] += settled >> who & 1;
        }
    }

    /** Of whom nothing is told and who parts so many sets, by the tally, the most evenly. */
    private int evenestUntold(int many) {
        int least = many;
        int best = NONE;
        for (int who = 0; who < desk.callers; who++) {
            int greater = Math.max(tally[who], many - tally[who]);
            if ((told >> who & 1) == 0 && greater < least) {
                least = greater;
                best = who;
            }
        }
        return best;
    }

    private void findOrder() {
        orders.begin(freeCallers());
        boolean more = true;
        for (int tried = 0; more && tried < MOST_ROWS; tried++) {
            trial.copyFrom(now);
            for (int i = 0; i < orders.size; i++) {
                trial.comeToEnd(orders.row[i]);
            }
            trial.runOut(desk);
            orders.weigh(Integer.bitCount(trial.settled));
            // No later row can be better than one by which all are settled.
            more = orders.most < desk.callers && orders.advance();
        }
        orders.known = true;
    }

    /** Who is settled in the minute to come if those on the line stand in this row. */
    private int settledNextBy(Rows rows) {
        trial.copyFrom(now);
        trial.standAs(rows.row, rows.size);
        return trial.passMinute(desk, desk.takes);
    }

    private static int gainOf(int mine, int theirs, int both, int says, int listens) {
        if (mine == 1) {
            return theirs == 1 ? both : says;
        }
        return theirs == 1 ? listens : 0;
    }

    private static long drawAfter(long drawn) {
        return (drawn * 1103515245L + 12345L) % 2147483648L;
    }

    /** Somebody drawn rings or rings off in the trial; answers how far the draws have come. */
    private long actByDraw(long drawn) {
        if (desk.callers == 0) {
            return drawn;
        }
        long g = drawAfter(drawn);
        int who = (int) (g / 65536 % desk.callers);
        if (trial.canRing(who)) {
            trial.comeToEnd(who);
        } else if (trial.placeOf(who) != NONE) {
            g = drawAfter(g);
            if (g / 65536 % 4 == 0) {
                trial.leave(who);
            }
        }
        return g;
    }

    /** The signs fed, and the token at which their reading stands. */
    private static final class Tape {
        static final int END = 0;
        static final int NO_TOKEN = 1;
        static final int WORD = 2;
        static final int NUMBER = 3;
        static final int SIGN = 4;
        static final int LONGEST_WORD = 8;
        static final int LONGEST_NUMBER = 4;

        private final byte[] signs = new byte[MOST_SIGNS];
        int length;
        int sort;
        int place;
        // A word's letters as bytes, a number's value, a sign's code.
        long value;
        private int behind;

        void write(long eight) {
            for (int shift = 56; shift >= 0; shift -= 8) {
                int sign = (int) (eight >>> shift & 255);
                if ((sign == 10 || sign >= 32 && sign <= 126) && length < signs.length) {
                    signs[length] = (byte) sign;
                    length++;
                }
            }
        }

        void clear() {
            length = 0;
        }

        void rewind() {
            behind = 0;
            step();
        }

        boolean isWord(long word) {
            return sort == WORD && value == word;
        }

        boolean isSign(char sign) {
            return sort == SIGN && value == sign;
        }

        void step() {
            int at = behind;
            while (at < length && (signs[at] == 10 || signs[at] == 32)) {
                at++;
            }
            place = at;
            behind = at;
            value = 0;
            if (at >= length) {
                sort = END;
            } else if (signs[at] >= 'a' && signs[at] <= 'z') {
                takeWord();
            } else if (signs[at] >= '0' && signs[at] <= '9') {
                takeNumber();
            } else {
                takeSign();
            }
        }

        private void takeWord() {
            while (behind < length && signs[behind] >= 'a' && signs[behind] <= 'z') {
                value = value << 8 | signs[behind];
                behind++;
            }
            sort = behind - place <= LONGEST_WORD ? WORD : NO_TOKEN;
        }

        private void takeNumber() {
            while (behind < length && signs[behind] >= '0' && signs[behind] <= '9') {
                value = value * 10 + (signs[behind] - '0');
                behind++;
            }
            sort = behind - place <= LONGEST_NUMBER ? NUMBER : NO_TOKEN;
        }

        private void takeSign() {
            value = signs[behind];
            behind++;
            sort = "()<=+-*;".indexOf((char) value) >= 0 ? SIGN : NO_TOKEN;
        }
    }

    /** Reads the tape; every part answers whether it is without a fault. */
    private static final class Reader {
        static final int CANT_STAND = 1;
        static final int NO_CALLER = 2;
        static final int AGAIN = 3;
        static final int NOT_AS_TOLD = 4;
        static final int TOO_MANY = 5;
        static final int DEEPEST = 5;

        // The words as their letters' bytes, as the tape gives them.
        static final long W_CALLER = 0x63616c6c6572L;
        static final long W_TROUBLE = 0x74726f75626c65L;
        static final long W_KNOWS = 0x6b6e6f7773L;
        static final long W_HOLDS = 0x686f6c6473L;
        static final long W_TAKES = 0x74616b6573L;
        static final long W_BELIEVES = 0x62656c6965766573L;
        static final long W_RING = 0x72696e67L;
        static final long W_OFF = 0x6f6666L;
        static final long W_SWAP = 0x73776170L;
        static final long W_MINUTE = 0x6d696e757465L;
        static final long W_PLAIN = 0x706c61696eL;
        static final long W_SHY = 0x736879L;
        static final long W_GOSSIP = 0x676f73736970L;
        static final long W_DEAF = 0x64656166L;
        static final long W_NOT = 0x6e6f74L;
        static final long W_AND = 0x616e64L;
        static final long W_OR = 0x6f72L;
        static final long W_HELD = 0x68656c64L;
        static final long W_MET = 0x6d6574L;
        static final long W_OWN = 0x6f776eL;
        static final long W_THEIRS = 0x746865697273L;

        final Tape tape = new Tape();
        private int fault;
        private int number;
        private boolean takesTold;
        private boolean lawTold;

        int readOffice(Desk desk) {
            desk.clear();
            takesTold = false;
            lawTold = false;
            fault = 0;
            tape.rewind();
            boolean fine = true;
            for (int i = 0; i < MOST_SIGNS && fine && tape.sort != Tape.END; i++) {
                fine = officeLine(desk);
            }
            tape.clear();
            return fault;
        }

        int readDay(Plan plan, Desk desk) {
            plan.lines = 0;
            fault = 0;
            tape.rewind();
            boolean fine = true;
            for (int i = 0; i < MOST_SIGNS && fine && tape.sort != Tape.END; i++) {
                fine = dayLine(plan, desk);
            }
            tape.clear();
            return fault;
        }

        private boolean fail(int kind) {
            fault = kind + 16 * tape.place;
            return false;
        }

        private boolean passWord(long word) {
            if (!tape.isWord(word)) {
                return fail(CANT_STAND);
            }
            tape.step();
            return true;
        }

        private boolean passSign(char sign) {
            if (!tape.isSign(sign)) {
                return fail(CANT_STAND);
            }
            tape.step();
            return true;
        }

        private boolean passNumber(int least, int most) {
            if (tape.sort != Tape.NUMBER) {
                return fail(CANT_STAND);
            }
            if (tape.value < least || tape.value > most) {
                return fail(NOT_AS_TOLD);
            }
            number = (int) tape.value;
            tape.step();
            return true;
        }

        private boolean officeLine(Desk desk) {
            if (tape.isWord(W_CALLER)) {
                return desk.callers < MOST_CALLERS ? callerLine(desk, desk.callers) : fail(TOO_MANY);
            }
            if (tape.isWord(W_TAKES)) {
                return takesTold ? fail(AGAIN) : takesLine(desk);
            }
            if (!tape.isWord(W_BELIEVES)) {
                return fail(CANT_STAND);
            }
            if (lawTold) {
                return fail(AGAIN);
            }
            lawTold = true;
            tape.step();
            return wholeTest(desk.law, 0) && passSign(';');
        }

        private boolean callerLine(Desk desk, int who) {
            tape.step();
            if (!newName(desk, who) || !kindWord(desk, who)) {
                return false;
            }
            if (!passWord(W_TROUBLE) || !passNumber(0, LAST_ANSWER)) {
                return false;
            }
            desk.trouble[who] = number;
            if (!passWord(W_KNOWS) || !answers(desk, who)) {
                return false;
            }
            if (!passWord(W_HOLDS) || !passNumber(1, LONGEST_HOLD)) {
                return false;
            }
            desk.holds[who] = number;
            desk.callers = who + 1;
            return passSign(';');
        }

        private boolean takesLine(Desk desk) {
            takesTold = true;
            tape.step();
            if (!passNumber(1, MOST_TAKES)) {
                return false;
            }
            desk.takes = number;
            return passSign(';');
        }

        private boolean isName() {
            long word = tape.value;
            return tape.sort == Tape.WORD && !isLineWord(word) && kindOf(word) == NONE
                    && word != W_NOT && word != W_AND && word != W_OR;
        }

        private static boolean isLineWord(long word) {
            return word == W_CALLER || word == W_TROUBLE || word == W_KNOWS || word == W_HOLDS
                    || word == W_TAKES || word == W_BELIEVES || word == W_RING || word == W_OFF
                    || word == W_SWAP || word == W_MINUTE;
        }

        private static int kindOf(long word) {
            if (word == W_PLAIN) {
                return PLAIN;
            }
            if (word == W_SHY) {
                return SHY;
            }
            if (word == W_GOSSIP) {
                return GOSSIP;
            }
            return word == W_DEAF ? DEAF : NONE;
        }

        private boolean newName(Desk desk, int who) {
            if (!isName()) {
                return fail(CANT_STAND);
            }
            if (desk.callerNamed(tape.value) != NONE) {
                return fail(AGAIN);
            }
            desk.name[who] = tape.value;
            tape.step();
            return true;
        }

        private boolean kindWord(Desk desk, int who) {
            int kind = tape.sort == Tape.WORD ? kindOf(tape.value) : NONE;
            if (kind == NONE) {
                return fail(CANT_STAND);
            }
            desk.kind[who] = kind;
            tape.step();
            return true;
        }

        private boolean answers(Desk desk, int who) {
            desk.knows[who] = 0;
            // One more than there may be, so that the one too many is looked at.
            for (int many = 0; many <= MOST_ANSWERS && tape.sort == Tape.NUMBER; many++) {
                if (tape.value > LAST_ANSWER) {
                    return fail(NOT_AS_TOLD);
                }
                int bit = 1 << (int) tape.value;
                if ((desk.knows[who] & bit) != 0) {
                    return fail(AGAIN);
                }
                if (many == MOST_ANSWERS) {
                    return fail(TOO_MANY);
                }
                desk.knows[who] |= bit;
                tape.step();
            }
            return desk.knows[who] != 0 || fail(CANT_STAND);
        }

        private boolean dayLine(Plan plan, Desk desk) {
            int deed = deedWord();
            if (deed == NONE) {
                return fail(CANT_STAND);
            }
            if (plan.lines >= MOST_LINES) {
                return fail(TOO_MANY);
            }
            tape.step();
            int who = NONE;
            int whom = NONE;
            if (deed != DEED_MINUTE) {
                who = namedCaller(desk, NONE);
                if (who == NONE) {
                    return false;
                }
            }
            if (deed == DEED_SWAP) {
                whom = namedCaller(desk, who);
                if (whom == NONE) {
                    return false;
                }
            }
            plan.add(deed, who, whom);
            return passSign(';');
        }

        private int deedWord() {
            if (tape.isWord(W_RING)) {
                return DEED_RING;
            }
            if (tape.isWord(W_OFF)) {
                return DEED_OFF;
            }
            if (tape.isWord(W_SWAP)) {
                return DEED_SWAP;
            }
            return tape.isWord(W_MINUTE) ? DEED_MINUTE : NONE;
        }

        /** The caller whose name stands there, other than one; NONE behind a fault. */
        private int namedCaller(Desk desk, int otherThan) {
            int who = isName() ? desk.callerNamed(tape.value) : NONE;
            if (who == NONE) {
                fail(isName() ? NO_CALLER : CANT_STAND);
                return NONE;
            }
            if (who == otherThan) {
                fail(AGAIN);
                return NONE;
            }
            tape.step();
            return who;
        }

        private boolean wholeTest(Law law, int depth) {
            boolean fine = test(law, depth);
            for (int i = 0; i < MOST_SIGNS && fine && isJoin(); i++) {
                int joins = tape.isWord(W_AND) ? Law.AND : Law.OR;
                tape.step();
                fine = test(law, depth);
                law.add(joins);
            }
            return fine;
        }

        private boolean isJoin() {
            return tape.isWord(W_AND) || tape.isWord(W_OR);
        }

        private boolean test(Law law, int depth) {
            if (!sum(law, depth)) {
                return false;
            }
            if (!tape.isSign('<') && !tape.isSign('=')) {
                return true;
            }
            int compares = tape.isSign('<') ? Law.LESS : Law.EQUAL;
            tape.step();
            boolean fine = sum(law, depth);
            law.add(compares);
            return fine;
        }

        private boolean sum(Law law, int depth) {
            boolean fine = product(law, depth);
            for (int i = 0; i < MOST_SIGNS && fine && (tape.isSign('+') || tape.isSign('-')); i++) {
                int adds = tape.isSign('+') ? Law.PLUS : Law.MINUS;
                tape.step();
                fine = product(law, depth);
                law.add(adds);
            }
            return fine;
        }

        private boolean product(Law law, int depth) {
            boolean fine = part(law, depth);
            for (int i = 0; i < MOST_SIGNS && fine && tape.isSign('*'); i++) {
                tape.step();
                fine = part(law, depth);
                law.add(Law.TIMES);
            }
            return fine;
        }

        private boolean part(Law law, int depth) {
            boolean opens = tape.isSign('(');
            boolean denies = tape.isWord(W_NOT);
            int given = givenPart();
            if (!opens && !denies && given == Law.NO_STEP) {
                return fail(CANT_STAND);
            }
            if (depth >= DEEPEST) {
                return fail(TOO_MANY);
            }
            tape.step();
            if (opens) {
                return wholeTest(law, depth + 1) && passSign(')');
            }
            boolean fine = !denies || part(law, depth + 1);
            law.add(denies ? Law.NOT : given);
            return fine;
        }

        /** The step of the law for a number or a fact that stands there. */
        private int givenPart() {
            if (tape.sort == Tape.NUMBER) {
                return (int) tape.value;
            }
            if (tape.isWord(W_HELD)) {
                return Law.HELD;
            }
            if (tape.isWord(W_MET)) {
                return Law.MET;
            }
            if (tape.isWord(W_OWN)) {
                return Law.OWN;
            }
            return tape.isWord(W_THEIRS) ? Law.THEIRS : Law.NO_STEP;
        }
    }

    /** Whom one believes: steps over a stack, a number being its own step. */
    private static final class Law {
        static final int HELD = -1;
        static final int MET = -2;
        static final int OWN = -3;
        static final int THEIRS = -4;
        static final int NOT = -5;
        static final int AND = -6;
        static final int OR = -7;
        static final int LESS = -8;
        static final int EQUAL = -9;
        static final int PLUS = -10;
        static final int MINUS = -11;
        static final int TIMES = -12;
        static final int NO_STEP = -13;
        // Five levels of four waiting values each, and the one at work, stay below it.
        static final int STACK = 32;

        private final int[] steps = new int[MOST_SIGNS];
        private final int[] stack = new int[STACK];
        private int size;

        void clear() {
            size = 0;
        }

        void add(int step) {
            if (size < steps.length) {
                steps[size] = step;
                size++;
            }
        }

        int valueOf(int held, int met, int own, int theirs) {
            int top = 0;
            for (int i = 0; i < size; i++) {
                int step = steps[i];
                int right = top > 0 ? stack[top - 1] : 0;
                int left = top > 1 ? stack[top - 2] : 0;
                int came = step;
                switch (step) {
                    case HELD: came = held; break;
                    case MET: came = met; break;
                    case OWN: came = own; break;
                    case THEIRS: came = theirs; break;
                    case NOT: came = right == 0 ? 1 : 0; break;
                    case AND: came = left != 0 && right != 0 ? 1 : 0; break;
                    case OR: came = left != 0 || right != 0 ? 1 : 0; break;
                    case LESS: came = left < right ? 1 : 0; break;
                    case EQUAL: came = left == right ? 1 : 0; break;
                    case PLUS: came = left + right; break;
                    case MINUS: came = left - right; break;
                    case TIMES: came = left * right; break;
                    default: break;
                }
                if (step >= THEIRS && top < stack.length) {
                    top++;
                } else if (step < NOT && top > 1) {
                    top--;
                }
                if (top > 0) {
                    stack[top - 1] = came;
                }
            }
            return top > 0 ? stack[0] : 1;
        }
    }

    /** An office as told. */
    private static final class Desk {
        final long[] name = new long[MOST_CALLERS];
        final int[] kind = new int[MOST_CALLERS];
        final int[] trouble = new int[MOST_CALLERS];
        final int[] knows = new int[MOST_CALLERS];
        final int[] holds = new int[MOST_CALLERS];
        final Law law = new Law();
        int callers;
        int takes = FIRST_TAKES;

        void clear() {
            callers = 0;
            takes = FIRST_TAKES;
            law.clear();
        }

        int callerNamed(long wanted) {
            for (int who = 0; who < callers; who++) {
                if (name[who] == wanted) {
                    return who;
                }
            }
            return NONE;
        }
    }

    /** A day as told. */
    private static final class Plan {
        final int[] deed = new int[MOST_LINES];
        final int[] who = new int[MOST_LINES];
        final int[] whom = new int[MOST_LINES];
        int lines;

        void add(int newDeed, int first, int second) {
            if (lines < MOST_LINES) {
                deed[lines] = newDeed;
                who[lines] = first;
                whom[lines] = second;
                lines++;
            }
        }

        void copyFrom(Plan from) {
            System.arraycopy(from.deed, 0, deed, 0, MOST_LINES);
            System.arraycopy(from.who, 0, who, 0, MOST_LINES);
            System.arraycopy(from.whom, 0, whom, 0, MOST_LINES);
            lines = from.lines;
        }
    }

    /** How it is at one time. */
    private static final class Hall {
        final int[] has = new int[MOST_CALLERS];
        final int[] held = new int[MOST_CALLERS];
        final int[] waits = new int[MOST_CALLERS];
        final int[] talks = new int[MOST_CALLERS * MOST_CALLERS];
        int length;
        int settled;
        int taken;
        int minute;

        void begin(Desk desk) {
            for (int i = 0; i < talks.length; i++) {
                talks[i] = 0;
            }
            for (int who = 0; who < MOST_CALLERS; who++) {
                has[who] = who < desk.callers ? desk.knows[who] : 0;
                held[who] = 0;
            }
            length = 0;
            settled = 0;
            taken = 0;
            minute = 0;
        }

        void copyFrom(Hall from) {
            System.arraycopy(from.has, 0, has, 0, MOST_CALLERS);
            System.arraycopy(from.held, 0, held, 0, MOST_CALLERS);
            System.arraycopy(from.waits, 0, waits, 0, MOST_CALLERS);
            System.arraycopy(from.talks, 0, talks, 0, talks.length);
            length = from.length;
            settled = from.settled;
            taken = from.taken;
            minute = from.minute;
        }

        boolean isSettled(int who) {
            return (settled >> who & 1) == 1;
        }

        int placeOf(int who) {
            for (int i = 0; i < length; i++) {
                if (waits[i] == who) {
                    return i;
                }
            }
            return NONE;
        }

        int lineBits() {
            int bits = 0;
            for (int i = 0; i < length; i++) {
                bits |= 1 << waits[i];
            }
            return bits;
        }

        int whoHas(int answer, int callers) {
            int bits = 0;
            for (int who = 0; who < callers; who++) {
                bits |= (has[who] >> answer & 1) << who;
            }
            return bits;
        }

        int answersInAll(int callers) {
            int many = 0;
            for (int who = 0; who < callers; who++) {
                many += Integer.bitCount(has[who]);
            }
            return many;
        }

        boolean canRing(int who) {
            return !isSettled(who) && placeOf(who) == NONE;
        }

        void comeToEnd(int who) {
            if (length < MOST_CALLERS) {
                waits[length] = who;
                length++;
                held[who] = 0;
            }
        }

        void leave(int who) {
            int place = placeOf(who);
            if (place == NONE) {
                return;
            }
            for (int i = place + 1; i < length; i++) {
                waits[i - 1] = waits[i];
            }
            length--;
            held[who] = 0;
        }

        void changePlaces(int who, int whom) {
            int place = placeOf(who);
            int otherPlace = placeOf(whom);
            if (place != NONE && otherPlace != NONE) {
                waits[place] = whom;
                waits[otherPlace] = who;
            }
        }

        void standAs(int[] row, int size) {
            for (int i = 0; i < size; i++) {
                waits[i] = row[i];
            }
        }

        /** Minutes go by till nobody is on the line: how many. */
        int runOut(Desk desk) {
            int passed = 0;
            while (length > 0 && passed < LONGEST_HOLD) {
                passMinute(desk, desk.takes);
                passed++;
            }
            return passed;
        }

        /** A minute: who is settled by it, as bits. */
        int passMinute(Desk desk, int takes) {
            int before = settled;
            for (int i = 0; i + 1 < length; i += 2) {
                putThrough(desk, i);
            }
            settleWhoKnow(desk);
            holdLonger(desk);
            minute++;
            if (takes > 0 && minute % takes == 0 && length > 0) {
                takeUp(desk, waits[0]);
            }
            return settled & ~before;
        }

        private void putThrough(Desk desk, int place) {
            int first = waits[place];
            int second = waits[place + 1];
            int behind = place + 2 < length ? waits[place + 2] : NONE;
            int times = talks[first * MOST_CALLERS + second] + 1;
            talks[first * MOST_CALLERS + second] = times;
            talks[second * MOST_CALLERS + first] = times;
            has[second] |= heard(desk, first, second, behind, times);
            has[first] |= heard(desk, second, first, behind, times);
        }

        /** The answers that one has besides by another one's telling, put through so often. */
        int heard(Desk desk, int teller, int hearer, int behind, int times) {
            int said = has[teller];
            if (desk.kind[teller] == SHY) {
                said &= 1 << desk.trouble[hearer];
            } else if (desk.kind[teller] == GOSSIP && behind != NONE) {
                said |= has[behind];
            }
            int fresh = said & ~has[hearer];
            // What brings nothing new need not be believed.
            if (fresh == 0 || desk.kind[hearer] == DEAF) {
                return 0;
            }
            int own = Integer.bitCount(has[hearer]);
            int theirs = Integer.bitCount(has[teller]);
            return desk.law.valueOf(held[hearer], times, own, theirs) != 0 ? fresh : 0;
        }

        private void settleWhoKnow(Desk desk) {
            int kept = 0;
            for (int i = 0; i < length; i++) {
                int who = waits[i];
                if ((has[who] >> desk.trouble[who] & 1) == 1) {
                    settled |= 1 << who;
                    held[who] = 0;
                } else {
                    waits[kept] = who;
                    kept++;
                }
            }
            length = kept;
        }

        private void holdLonger(Desk desk) {
            int kept = 0;
            for (int i = 0; i < length; i++) {
                int who = waits[i];
                held[who]++;
                if (held[who] >= desk.holds[who]) {
                    held[who] = 0;
                } else {
                    waits[kept] = who;
                    kept++;
                }
            }
            length = kept;
        }

        private void takeUp(Desk desk, int who) {
            has[who] |= 1 << desk.trouble[who];
            settled |= 1 << who;
            taken |= 1 << who;
            leave(who);
        }
    }

    /** What a mark holds. */
    private static final class Mark {
        final Hall hall = new Hall();
        final Plan plan = new Plan();
        int told;
        int toldSettled;
        boolean laid;
    }

    /** The orders of some callers, the first by numbers first, and the best one so far. */
    private static final class Rows {
        final int[] row = new int[MOST_CALLERS];
        private final int[] best = new int[MOST_CALLERS];
        int size;
        int most;
        boolean known;

        void begin(int set) {
            size = 0;
            most = NONE;
            known = false;
            for (int who = 0; who < MOST_CALLERS; who++) {
                if ((set >> who & 1) == 1) {
                    row[size] = who;
                    size++;
                }
            }
        }

        void weigh(int many) {
            if (many > most) {
                most = many;
                System.arraycopy(row, 0, best, 0, MOST_CALLERS);
            }
        }

        int answerTo(int what) {
            if (what == NONE) {
                return most;
            }
            return what >= 0 && what < size ? best[what] : NO_SUCH;
        }

        /** Goes on to the next order by numbers, if there is one. */
        boolean advance() {
            int rises = size - 2;
            while (rises >= 0 && row[rises] > row[rises + 1]) {
                rises--;
            }
            if (rises < 0) {
                return false;
            }
            int over = size - 1;
            while (over > rises && row[over] < row[rises]) {
                over--;
            }
            exchange(rises, over);
            int left = rises + 1;
            int right = size - 1;
            while (left < right) {
                exchange(left, right);
                left++;
                right--;
            }
            return true;
        }

        private void exchange(int i, int j) {
            int kept = row[i];
            row[i] = row[j];
            row[j] = kept;
        }
    }
}
