import java.util.Arrays;
import java.util.NoSuchElementException;

/** Leaderless ordering of clashing commands, by hand; ../shared/DOC.md says what each call answers. */
public final class LeaderlessOrder {
    public static final int NONE = -1;

    private static final int REPLICA_ROOM = 5;
    private static final int COMMAND_ROOM = 8;
    private static final int KEY_ROOM = 4;
    private static final int CELL_ROOM = REPLICA_ROOM * COMMAND_ROOM;
    private static final int LINE_ROOM = 40;
    private static final int SEEN_ROOM = 8;
    private static final int MARK_ROOM = 4;
    private static final int UNDO_ROOM = 16;
    private static final int NEST_ROOM = 5;

    private static final int PUT = 0;
    private static final int ADD = 1;
    private static final int GET = 2;
    private static final int WIPE = 3;

    private static final int UNKNOWN = 0;
    private static final int ASKED = 1;
    private static final int ACCEPTED = 2;
    private static final int COMMITTED = 3;
    private static final int RUN = 4;

    // The first nine are numbered as a drive draws them (there 8 is DOWN or UP).
    private static final int PROPOSE = 0;
    private static final int ASK = 1;
    private static final int DECIDE = 2;
    private static final int ACCEPT = 3;
    private static final int SETTLE = 4;
    private static final int TELL = 5;
    private static final int RECOVER = 6;
    private static final int RUN_ALL = 7;
    private static final int DOWN = 8;
    private static final int UP = 9;
    private static final int CLEAN = 10;

    private static final int FAULT_PLACE = 1;
    private static final int FAULT_NAME = 2;
    private static final int FAULT_AGAIN = 3;
    private static final int FAULT_NUMBER = 4;
    private static final int FAULT_MANY = 5;

    private static final int SORT_PLAIN = 0;
    private static final int SORT_STEP = 1;
    private static final int SORT_KIND = 2;
    private static final int SORT_FACT = 3;
    private static final int SORT_OTHER = 4;

    // What stands in a law's code beside NUMBERS, which are 0 or more.
    private static final int FACT_LOW = -1;
    private static final int FACT_HIGH = -2;
    private static final int FACT_APART = -3;
    private static final int FACT_SAME = -4;
    private static final int LAW_NOT = -5;
    private static final int LAW_AND = -6;
    private static final int LAW_OR = -7;
    private static final int LAW_LESS = -8;
    private static final int LAW_EQUAL = -9;
    private static final int LAW_PLUS = -10;
    private static final int LAW_MINUS = -11;
    private static final int LAW_TIMES = -12;
    private static final int LAW_NOTHING = 0;

    private final Tape tape;
    private final Reader reader;
    private final Group group;
    private final Group draftGroup;
    private final Triples work;
    private final Triples draftWork;
    private final Triples seen;
    private final State state;
    private final State trial;
    private final Rules rules;
    private final Runs runs;
    private final History history;
    private final Mark[] marks;

    public LeaderlessOrder() {
        tape = new Tape();
        reader = new Reader(tape);
        group = new Group();
        draftGroup = new Group();
        work = new Triples(LINE_ROOM);
        draftWork = new Triples(LINE_ROOM);
        seen = new Triples(SEEN_ROOM);
        state = new State();
        trial = new State();
        runs = new Runs(group);
        rules = new Rules(group, runs);
        history = new History();
        marks = new Mark[MARK_ROOM];
        for (int i = 0; i < MARK_ROOM; i++) {
            marks[i] = new Mark();
        }
    }

    public int feed(long a, long b, long c) {
        feedBytes(a);
        feedBytes(b);
        feedBytes(c);
        return tape.length;
    }

    public int group() {
        int fault = reader.readGroup(draftGroup);
        tape.length = 0;
        if (fault != 0) {
            return fault;
        }
        group.copyFrom(draftGroup);
        state.startAnew(group);
        work.many = 0;
        seen.many = 0;
        history.forget();
        for (int i = 0; i < MARK_ROOM; i++) {
            marks[i].laid = false;
        }
        return 0;
    }

    public int work() {
        int fault = reader.readWork(draftWork, group);
        tape.length = 0;
        if (fault == 0) {
            work.copyFrom(draftWork);
        }
        return fault;
    }

    public int command(int command, int what) {
        if (!isCommand(command)) {
            return NONE;
        }
        switch (what) {
            case 0: return group.kind[command];
            case 1: return group.key[command];
            case 2: return group.value[command];
            case 3: return group.leader[command];
            case 4: return state.host[command];
            case 5: return state.answers[command];
            case 6: return state.accepts[command];
            case 7: return (state.cleaned >> command) & 1;
            default: return NONE;
        }
    }

    public int known(int replica, int command, int what) {
        if (!isReplica(replica) || !isCommand(command)) {
            return NONE;
        }
        int cell = State.cellOf(replica, command);
        switch (what) {
            case 0: return state.status[cell];
            case 1: return state.ballot[cell];
            case 2: return state.seq[cell];
            case 3: return state.deps[cell];
            default: return NONE;
        }
    }

    public int replica(int replica, int what) {
        if (!isReplica(replica)) {
            return NONE;
        }
        switch (what) {
            case 0: return state.isUp(replica) ? 1 : 0;
            case 1: return state.ran[replica];
            case 2: return state.commandsAt(replica, COMMITTED, COMMITTED);
            case 3: return state.commandsAt(replica, RUN, RUN);
            default: return NONE;
        }
    }

    public int order(int replica, int i) throws NoSuchElementException {
        if (!isReplica(replica) || i < 0 || i >= state.ran[replica]) {
            throw new NoSuchElementException();
        }
        return state.order[State.cellOf(replica, i)];
    }

    public int value(int replica, int key) {
        if (!isReplica(replica) || key < 0 || key >= group.keys) {
            return NONE;
        }
        return state.values[replica * KEY_ROOM + key];
    }

    public int got(int replica, int command) {
        if (!isReplica(replica) || !isCommand(command) || group.kind[command] != GET) {
            return NONE;
        }
        int cell = State.cellOf(replica, command);
        return state.status[cell] == RUN && !state.isEmptyAt(cell) ? state.got[cell] : NONE;
    }

    public boolean clash(int command, int other) {
        return isCommand(command) && isCommand(other) && group.isClash(command, other);
    }

    public int propose(int command) {
        return isCommand(command) ? doByHand(PROPOSE, command, 0) : NONE;
    }

    public int ask(int command, int replica) {
        return isCommand(command) && isReplica(replica) ? doByHand(ASK, command, replica) : NONE;
    }

    public int decide(int command) {
        return isCommand(command) ? doByHand(DECIDE, command, 0) : NONE;
    }

    public int accept(int command, int replica) {
        return isCommand(command) && isReplica(replica) ? doByHand(ACCEPT, command, replica) : NONE;
    }

    public boolean settle(int command) {
        return isCommand(command) && doByHand(SETTLE, command, 0) != NONE;
    }

    public boolean tell(int command, int replica) {
        return isCommand(command) && isReplica(replica) && doByHand(TELL, command, replica) != NONE;
    }

    public boolean down(int replica) {
        return isReplica(replica) && doByHand(DOWN, 0, replica) != NONE;
    }

    public boolean up(int replica) {
        return isReplica(replica) && doByHand(UP, 0, replica) != NONE;
    }

    public int recover(int command, int replica) {
        return isCommand(command) && isReplica(replica) ? doByHand(RECOVER, command, replica) : NONE;
    }

    public int run(int replica) {
        return isReplica(replica) ? doByHand(RUN_ALL, 0, replica) : NONE;
    }

    public int clean() {
        return doByHand(CLEAN, 0, 0);
    }

    public boolean undo() {
        return history.goBack(state);
    }

    public int judged(int what) {
        if (what < 0 || what > 2) {
            return -2;
        }
        trial.startAnew(group);
        int firstWrong = NONE;
        int firstRun = NONE;
        for (int i = 0; i < work.many; i++) {
            int answer = rules.doStep(trial, work.first[i], work.second[i], work.third[i]);
            if (answer == NONE && firstWrong == NONE) {
                firstWrong = i;
            }
            if (firstRun == NONE && trial.ranInAll() > 0) {
                firstRun = i;
            }
        }
        if (what == 2) {
            return trial.ranInAll();
        }
        return what == 0 ? firstWrong : firstRun;
    }

    public int lone() {
        int bits = 0;
        for (int c = 0; c < group.commands; c++) {
            if (group.clashes[c] == 0) {
                bits |= 1 << c;
            }
        }
        return bits;
    }

    public int heap(int command) {
        if (!isCommand(command)) {
            return NONE;
        }
        int bits = 1 << command;
        // Each round adds at least one COMMAND, or nothing more comes.
        for (int round = 0; round < COMMAND_ROOM; round++) {
            for (int c = 0; c < group.commands; c++) {
                if (((bits >> c) & 1) != 0) {
                    bits |= group.clashes[c];
                }
            }
        }
        return bits;
    }

    public int union(int command, int what) {
        if (!isCommand(command)) {
            return NONE;
        }
        switch (what) {
            case 0: return state.greatestSeq(command, state.answers[command]);
            case 1: return state.allDeps(command, state.answers[command]);
            default: return NONE;
        }
    }

    public boolean quick(int command) {
        return isCommand(command) && rules.canDecide(state, command) && rules.isDecidedAtOnce(state, command);
    }

    public int waits(int replica) {
        if (!isReplica(replica)) {
            return NONE;
        }
        int bits = 0;
        for (int c = 0; c < group.commands; c++) {
            int cell = State.cellOf(replica, c);
            if (state.status[cell] == COMMITTED) {
                bits |= state.deps[cell];
            }
        }
        return bits & ~state.commandsAt(replica, COMMITTED, RUN);
    }

    public int ready(int replica) {
        if (!isReplica(replica)) {
            return NONE;
        }
        tryToRun(replica);
        return trial.commandsAt(replica, RUN, RUN) & ~state.commandsAt(replica, RUN, RUN);
    }

    public int plan(int replica, int i) {
        if (!isReplica(replica) || i < 0 || i >= COMMAND_ROOM) {
            return NONE;
        }
        tryToRun(replica);
        int at = state.ran[replica] + i;
        return at < trial.ran[replica] ? trial.order[State.cellOf(replica, at)] : NONE;
    }

    public int part(int replica, int command) {
        if (!isReplica(replica) || !isCommand(command)) {
            return NONE;
        }
        if (state.status[State.cellOf(replica, command)] != COMMITTED) {
            return NONE;
        }
        runs.lookAt(state, replica);
        return runs.partOf(command);
    }

    public boolean one(int command) {
        if (!isCommand(command)) {
            return false;
        }
        int bits = state.replicasWith(command, COMMITTED, RUN);
        int first = firstOf(bits);
        for (int r = 0; r < group.replicas; r++) {
            if (((bits >> r) & 1) != 0 && !state.isSame(command, first, r)) {
                return false;
            }
        }
        return true;
    }

    public boolean agree(int replica, int other) {
        return isReplica(replica) && isReplica(other) && runs.isAgreed(state, replica, other);
    }

    public boolean before(int replica, int command, int other) {
        if (!isReplica(replica) || !isCommand(command) || !isCommand(other)) {
            return false;
        }
        return state.isBefore(replica, command, other);
    }

    public int bare(int replica) {
        if (!isReplica(replica)) {
            return NONE;
        }
        int anywhere = 0;
        for (int r = 0; r < group.replicas; r++) {
            anywhere |= state.commandsAt(r, COMMITTED, RUN);
        }
        return anywhere & ~state.commandsAt(replica, COMMITTED, RUN);
    }

    public int level(int replica) {
        return isReplica(replica) ? Integer.bitCount(rules.ranEverywhere(state, replica)) : NONE;
    }

    public int stuck() {
        if (Integer.bitCount(state.up) >= group.most()) {
            return 0;
        }
        int begun = 0;
        int ended = (1 << group.commands) - 1;
        for (int r = 0; r < group.replicas; r++) {
            if (state.isUp(r)) {
                begun |= state.commandsAt(r, ASKED, RUN);
                ended &= state.commandsAt(r, COMMITTED, RUN);
            }
        }
        return begun & ~ended;
    }

    public int finds(int command, int replica) {
        if (!isCommand(command) || !isReplica(replica) || !rules.canRecover(state, command, replica)) {
            return NONE;
        }
        return rules.find(state, state.up, command);
    }

    public int risk(int command) {
        if (!isCommand(command)) {
            return NONE;
        }
        int holders = state.replicasWith(command, COMMITTED, RUN);
        if (holders == 0) {
            return NONE;
        }
        int cell = State.cellOf(firstOf(holders), command);
        int all = group.allReplicas();
        int many = 0;
        for (int lost = 0; lost <= all; lost++) {
            int left = all & ~lost;
            if (Integer.bitCount(lost) == group.replicas / 2 && (left & ~holders) != 0
                    && rules.wouldFindOther(state, left, command, cell)) {
                many++;
            }
        }
        return many;
    }

    public boolean see(int command, int other, boolean is) {
        if (!isCommand(command) || !isCommand(other) || command == other) {
            return false;
        }
        return seen.add(command, other, is ? 1 : 0);
    }

    public int who() {
        int bits = 0;
        for (int r = 0; r < group.replicas; r++) {
            if (isAllSeenSo(r)) {
                bits |= 1 << r;
            }
        }
        return bits;
    }

    public int look() {
        int suspects = who();
        int least = Integer.bitCount(suspects);
        int best = NONE;
        for (int c = 0; c < group.commands; c++) {
            for (int d = 0; d < group.commands; d++) {
                int left = mostLeft(suspects, c, d);
                if (c != d && left < least) {
                    least = left;
                    best = 8 * c + d;
                }
            }
        }
        return best;
    }

    public int drives(int seed, int many, int what) {
        if (seed < 0 || seed > 9999 || many < 1 || many > 99 || what < 0 || what > 2) {
            return NONE;
        }
        trial.copyFrom(state);
        int could = driveTrial(seed, many);
        if (what == 0) {
            return could;
        }
        return what == 1 ? trial.ranInAll() : quarrelsOfTrial();
    }

    public boolean mark(int mark, boolean back) {
        if (mark < 0 || mark >= MARK_ROOM) {
            return false;
        }
        Mark place = marks[mark];
        if (!back) {
            place.hold(state, work, seen);
            return true;
        }
        if (!place.laid) {
            return false;
        }
        place.giveBack(state, work, seen);
        history.forget();
        return true;
    }

    public int count(int what) {
        switch (what) {
            case 0: return group.replicas;
            case 1: return group.keys;
            case 2: return group.commands;
            case 3: return state.up;
            case 4: return state.cleaned;
            case 5: return state.ranInAll();
            case 6: return work.many;
            case 7: return seen.many;
            case 8: return history.many;
            case 9: return tape.length;
            default: return NONE;
        }
    }

    private void feedBytes(long bytes) {
        for (int shift = 56; shift >= 0; shift -= 8) {
            tape.add((char) ((bytes >> shift) & 255));
        }
    }

    private boolean isReplica(int replica) {
        return replica >= 0 && replica < group.replicas;
    }

    private boolean isCommand(int command) {
        return command >= 0 && command < group.commands;
    }

    /** Does a step by hand; only one that could be is kept, to be undone. */
    private int doByHand(int step, int command, int replica) {
        history.note(state);
        int answer = rules.doStep(state, step, command, replica);
        if (answer != NONE) {
            history.keep();
        }
        return answer;
    }

    private void tryToRun(int replica) {
        trial.copyFrom(state);
        runs.runParts(trial, replica);
    }

    private boolean isAllSeenSo(int replica) {
        for (int i = 0; i < seen.many; i++) {
            if (state.isBefore(replica, seen.first[i], seen.second[i]) != (seen.third[i] != 0)) {
                return false;
            }
        }
        return true;
    }

    /** How many suspects are left at worst, once it is seen whether one COMMAND was BEFORE another. */
    private int mostLeft(int suspects, int command, int other) {
        int so = 0;
        for (int r = 0; r < group.replicas; r++) {
            if (((suspects >> r) & 1) != 0 && state.isBefore(r, command, other)) {
                so++;
            }
        }
        return Math.max(so, Integer.bitCount(suspects) - so);
    }

    private int driveTrial(int seed, int many) {
        if (group.replicas == 0 || group.commands == 0) {
            return 0;
        }
        int could = 0;
        long g = seed;
        for (int i = 0; i < many; i++) {
            g = nextDraw(g);
            int step = (int) (g / 65536 % 9);
            g = nextDraw(g);
            int command = (int) (g / 65536 % group.commands);
            g = nextDraw(g);
            int replica = (int) (g / 65536 % group.replicas);
            if (step == DOWN && !trial.isUp(replica)) {
                step = UP;
            }
            if (rules.doStep(trial, step, command, replica) != NONE) {
                could++;
            }
        }
        return could;
    }

    private int quarrelsOfTrial() {
        int many = 0;
        for (int r = 0; r < group.replicas; r++) {
            for (int o = r + 1; o < group.replicas; o++) {
                if (!runs.isAgreed(trial, r, o)) {
                    many++;
                }
            }
        }
        return many;
    }

    private static long nextDraw(long g) {
        return (g * 1103515245L + 12345L) % 2147483648L;
    }

    /** The least number among bits; NONE: there is none. */
    private static int firstOf(int bits) {
        return bits == 0 ? NONE : Integer.bitCount((bits & -bits) - 1);
    }

    /** The words that the language itself has: of what sort each is, and which of its sort. */
    private enum Word {
        REPLICAS("replicas", SORT_PLAIN, 0),
        KEYS("keys", SORT_PLAIN, 0),
        COMMAND("command", SORT_PLAIN, 0),
        KEY("key", SORT_PLAIN, 0),
        VALUE("value", SORT_PLAIN, 0),
        AT("at", SORT_PLAIN, 0),
        CLASHES("clashes", SORT_PLAIN, 0),
        NOT("not", SORT_PLAIN, 0),
        AND("and", SORT_PLAIN, 0),
        OR("or", SORT_PLAIN, 0),
        STEP_PROPOSE("propose", SORT_STEP, PROPOSE),
        STEP_ASK("ask", SORT_STEP, ASK),
        STEP_DECIDE("decide", SORT_STEP, DECIDE),
        STEP_ACCEPT("accept", SORT_STEP, ACCEPT),
        STEP_SETTLE("settle", SORT_STEP, SETTLE),
        STEP_TELL("tell", SORT_STEP, TELL),
        STEP_RECOVER("recover", SORT_STEP, RECOVER),
        STEP_RUN("run", SORT_STEP, RUN_ALL),
        STEP_DOWN("down", SORT_STEP, DOWN),
        STEP_UP("up", SORT_STEP, UP),
        STEP_CLEAN("clean", SORT_STEP, CLEAN),
        KIND_PUT("put", SORT_KIND, PUT),
        KIND_ADD("add", SORT_KIND, ADD),
        KIND_GET("get", SORT_KIND, GET),
        KIND_WIPE("wipe", SORT_KIND, WIPE),
        LOW("low", SORT_FACT, FACT_LOW),
        HIGH("high", SORT_FACT, FACT_HIGH),
        APART("apart", SORT_FACT, FACT_APART),
        SAME("same", SORT_FACT, FACT_SAME),
        OTHER("", SORT_OTHER, 0);

        private static final Word[] ALL = values();

        final long spelt;
        final int sort;
        final int number;

        Word(String text, int sort, int number) {
            long letters = 0;
            for (int i = 0; i < text.length(); i++) {
                letters = spell(letters, text.charAt(i));
            }
            this.spelt = letters;
            this.sort = sort;
            this.number = number;
        }

        /** A WORD of 8 letters fits into a long, 5 bits each, so that no text need be made of it. */
        static long spell(long letters, char letter) {
            return letters * 32 + (letter - 'a' + 1);
        }

        static Word ofLetters(long letters) {
            for (int i = 0; i < ALL.length; i++) {
                if (ALL[i].spelt == letters) {
                    return ALL[i];
                }
            }
            return OTHER;
        }
    }

    /** The signs fed, and the tokens they are cut into when they are read. */
    private static final class Tape {
        static final int ROOM = 1000;
        static final int END = 0;
        static final int BAD = 1;
        static final int NUMBER = 2;
        static final int WORD = 3;
        static final int SIGN = 4;
        static final int WORD_ROOM = 8;
        static final int DIGIT_ROOM = 4;

        final char[] signs = new char[ROOM];
        int length;

        // A token for each sign at most, and the end.
        final int[] sort = new int[ROOM + 1];
        final int[] place = new int[ROOM + 1];
        final int[] number = new int[ROOM + 1];
        final long[] spelt = new long[ROOM + 1];
        final Word[] word = new Word[ROOM + 1];
        int tokens;

        // A reader may then look at any place of the row: there is a Word on each, cut or not.
        Tape() {
            for (int i = 0; i <= ROOM; i++) {
                word[i] = Word.OTHER;
            }
        }

        void add(char sign) {
            if (length < ROOM && (sign == 10 || sign >= 32 && sign <= 126)) {
                signs[length] = sign;
                length++;
            }
        }

        void cut() {
            tokens = 0;
            int at = 0;
            // Each round takes one sign or more.
            for (int i = 0; i < ROOM && at < length; i++) {
                char sign = signs[at];
                if (sign == 10 || sign == 32) {
                    at++;
                } else {
                    at = cutToken(at);
                }
            }
            put(END, length, Word.OTHER);
        }

        /** Cuts the token that begins at a place: the place behind it. */
        private int cutToken(int at) {
            char sign = signs[at];
            if (isLetter(sign)) {
                return cutWord(at);
            }
            if (isDigit(sign)) {
                return cutNumber(at);
            }
            number[tokens] = sign;
            put("()<=+-*;".indexOf(sign) >= 0 ? SIGN : BAD, at, Word.OTHER);
            return at + 1;
        }

        private int cutWord(int at) {
            int end = at;
            long letters = 0;
            while (end < length && isLetter(signs[end])) {
                letters = Word.spell(letters, signs[end]);
                end++;
            }
            spelt[tokens] = letters;
            boolean isLong = end - at > WORD_ROOM;
            put(isLong ? BAD : WORD, at, isLong ? Word.OTHER : Word.ofLetters(letters));
            return end;
        }

        private int cutNumber(int at) {
            int end = at;
            int sum = 0;
            while (end < length && isDigit(signs[end])) {
                sum = sum * 10 + (signs[end] - '0');
                end++;
            }
            number[tokens] = sum;
            put(end - at <= DIGIT_ROOM ? NUMBER : BAD, at, Word.OTHER);
            return end;
        }

        private void put(int what, int at, Word which) {
            sort[tokens] = what;
            place[tokens] = at;
            word[tokens] = which;
            tokens++;
        }

        private static boolean isLetter(char sign) {
            return sign >= 'a' && sign <= 'z';
        }

        private static boolean isDigit(char sign) {
            return sign >= '0' && sign <= '9';
        }
    }

    /** The E of clashes, its parts in the order in which a stack works them out. */
    private static final class Law {
        // Five levels of nesting leave four open sums each at most.
        static final int STACK_ROOM = 64;

        final int[] codes = new int[Tape.ROOM];
        int size;
        private final int[] stack = new int[STACK_ROOM];
        private int height;

        void add(int code) {
            if (size < codes.length) {
                codes[size] = code;
                size++;
            }
        }

        /** What comes of it for two COMMANDS of a GROUP. */
        int worth(Group group, int command, int other) {
            height = 0;
            for (int i = 0; i < size; i++) {
                int code = codes[i];
                if (code >= 0) {
                    push(code);
                } else if (code >= FACT_SAME) {
                    push(fact(group, code, command, other));
                } else if (code == LAW_NOT) {
                    push(pop() == 0 ? 1 : 0);
                } else {
                    int right = pop();
                    int left = pop();
                    push(join(code, left, right));
                }
            }
            return pop();
        }

        private static int fact(Group group, int code, int command, int other) {
            switch (code) {
                case FACT_LOW: return Math.min(group.value[command], group.value[other]);
                case FACT_HIGH: return Math.max(group.value[command], group.value[other]);
                case FACT_APART: return Math.abs(group.key[command] - group.key[other]);
                default: return group.leader[command] == group.leader[other] ? 1 : 0;
            }
        }

        private static int join(int code, int left, int right) {
            switch (code) {
                case LAW_AND: return left != 0 && right != 0 ? 1 : 0;
                case LAW_OR: return left != 0 || right != 0 ? 1 : 0;
                case LAW_LESS: return left < right ? 1 : 0;
                case LAW_EQUAL: return left == right ? 1 : 0;
                case LAW_PLUS: return left + right;
                case LAW_MINUS: return left - right;
                default: return left * right;
            }
        }

        private void push(int number) {
            if (height < STACK_ROOM) {
                stack[height] = number;
                height++;
            }
        }

        private int pop() {
            if (height == 0) {
                return 0;
            }
            height--;
            return stack[height];
        }
    }

    /** Reads the TAPE; behind the first FAULT all that it would take is left alone. */
    private static final class Reader {
        private final Tape tape;
        private final Law law = new Law();
        private boolean lawTold;
        private int at;
        private Word word = Word.OTHER;
        private int fault;

        Reader(Tape tape) {
            this.tape = tape;
        }

        int readGroup(Group draft) {
            begin();
            draft.replicas = 0;
            draft.keys = 0;
            draft.commands = 0;
            law.size = 0;
            lawTold = false;
            for (int i = 0; i < Tape.ROOM && !isOver(); i++) {
                readStatement(draft);
            }
            if (fault == 0) {
                draft.layClashes(law);
            }
            return fault;
        }

        int readWork(Triples draft, Group group) {
            begin();
            draft.many = 0;
            for (int i = 0; i < Tape.ROOM && !isOver(); i++) {
                readLine(draft, group);
            }
            return fault;
        }

        private void begin() {
            tape.cut();
            fault = 0;
            at = 0;
            word = tape.word[0];
        }

        private boolean isOver() {
            return fault != 0 || tape.sort[at] == Tape.END;
        }

        private void readStatement(Group draft) {
            if (word == Word.REPLICAS) {
                readReplicas(draft);
            } else if (word == Word.KEYS) {
                readKeys(draft);
            } else if (word == Word.COMMAND) {
                readCommand(draft);
            } else if (word == Word.CLASHES) {
                readClashes();
            } else {
                wrong(FAULT_PLACE);
            }
        }

        private void readReplicas(Group draft) {
            if (draft.replicas != 0) {
                wrong(FAULT_AGAIN);
            }
            advance();
            if (tape.sort[at] == Tape.NUMBER && tape.number[at] == 4) {
                wrong(FAULT_NUMBER);
            }
            draft.replicas = takeNumber(3, REPLICA_ROOM);
            takeSign(';');
        }

        private void readKeys(Group draft) {
            if (draft.keys != 0) {
                wrong(FAULT_AGAIN);
            }
            advance();
            draft.keys = takeNumber(1, KEY_ROOM);
            takeSign(';');
        }

        private void readCommand(Group draft) {
            int command = draft.commands;
            if (command >= COMMAND_ROOM) {
                wrong(FAULT_MANY);
                return;
            }
            advance();
            takeNewName(draft, command);
            draft.kind[command] = takeKind();
            takeWord(Word.KEY);
            draft.key[command] = takeNumber(0, draft.keys - 1);
            takeWord(Word.VALUE);
            draft.value[command] = takeNumber(0, 99);
            takeWord(Word.AT);
            draft.leader[command] = takeNumber(0, draft.replicas - 1);
            takeSign(';');
            draft.commands++;
        }

        private void readClashes() {
            if (lawTold) {
                wrong(FAULT_AGAIN);
            }
            lawTold = true;
            advance();
            readLevel(0, 0);
            takeSign(';');
        }

        /** E by its levels: 0 and, or; 1 < and =, once; 2 + and -; 3 *; 4 a PART. */
        private void readLevel(int level, int depth) {
            if (level >= 4) {
                readPart(depth);
                return;
            }
            readLevel(level + 1, depth);
            int rounds = level == 1 ? 1 : Tape.ROOM;
            for (int i = 0; i < rounds; i++) {
                int code = joinerOf(level);
                if (code == LAW_NOTHING || fault != 0) {
                    return;
                }
                advance();
                readLevel(level + 1, depth);
                law.add(code);
            }
        }

        private int joinerOf(int level) {
            switch (level) {
                case 0: return word == Word.AND ? LAW_AND : word == Word.OR ? LAW_OR : LAW_NOTHING;
                case 1: return isSign('<') ? LAW_LESS : isSign('=') ? LAW_EQUAL : LAW_NOTHING;
                case 2: return isSign('+') ? LAW_PLUS : isSign('-') ? LAW_MINUS : LAW_NOTHING;
                default: return isSign('*') ? LAW_TIMES : LAW_NOTHING;
            }
        }

        private void readPart(int depth) {
            boolean isNumber = tape.sort[at] == Tape.NUMBER;
            boolean isFact = word.sort == SORT_FACT;
            boolean isNot = word == Word.NOT;
            if (!isNumber && !isFact && !isNot && !isSign('(')) {
                wrong(FAULT_PLACE);
            } else if (depth >= NEST_ROOM) {
                wrong(FAULT_MANY);
            }
            if (fault != 0) {
                return;
            }
            if (isNumber || isFact) {
                law.add(isNumber ? tape.number[at] : word.number);
                advance();
                return;
            }
            advance();
            if (isNot) {
                readPart(depth + 1);
                law.add(LAW_NOT);
            } else {
                readLevel(0, depth + 1);
                takeSign(')');
            }
        }

        private void readLine(Triples draft, Group group) {
            if (word.sort != SORT_STEP) {
                wrong(FAULT_PLACE);
                return;
            }
            if (draft.many >= LINE_ROOM) {
                wrong(FAULT_MANY);
                return;
            }
            int step = word.number;
            advance();
            int command = step < RUN_ALL ? takeName(group) : 0;
            boolean isWith = step != PROPOSE && step != DECIDE && step != SETTLE && step != CLEAN;
            int replica = isWith ? takeNumber(0, group.replicas - 1) : 0;
            takeSign(';');
            draft.add(step, command, replica);
        }

        private void takeNewName(Group draft, int command) {
            if (!isName()) {
                wrong(FAULT_PLACE);
            } else if (draft.commandNamed(tape.spelt[at]) != NONE) {
                wrong(FAULT_AGAIN);
            }
            draft.name[command] = tape.spelt[at];
            advance();
        }

        private int takeName(Group group) {
            int command = isName() ? group.commandNamed(tape.spelt[at]) : NONE;
            if (command == NONE) {
                wrong(isName() ? FAULT_NAME : FAULT_PLACE);
            }
            advance();
            return command;
        }

        private boolean isName() {
            return tape.sort[at] == Tape.WORD && (word.sort == SORT_FACT || word.sort == SORT_OTHER);
        }

        private int takeKind() {
            int kind = word.number;
            if (word.sort != SORT_KIND) {
                wrong(FAULT_PLACE);
            }
            advance();
            return kind;
        }

        private void takeWord(Word due) {
            if (word != due) {
                wrong(FAULT_PLACE);
            }
            advance();
        }

        private void takeSign(char due) {
            if (!isSign(due)) {
                wrong(FAULT_PLACE);
            }
            advance();
        }

        private int takeNumber(int least, int most) {
            int number = tape.number[at];
            if (tape.sort[at] != Tape.NUMBER) {
                wrong(FAULT_PLACE);
            } else if (number < least || number > most) {
                wrong(FAULT_NUMBER);
            }
            advance();
            return number;
        }

        private boolean isSign(char sign) {
            return tape.sort[at] == Tape.SIGN && tape.number[at] == sign;
        }

        private void wrong(int kind) {
            if (fault == 0) {
                fault = kind + 16 * tape.place[at];
            }
        }

        /** Goes to the next token, but stays where a FAULT is. */
        private void advance() {
            if (fault == 0 && at + 1 < tape.tokens) {
                at++;
                word = tape.word[at];
            }
        }
    }

    /** What a GROUP tells. */
    private static final class Group {
        int replicas;
        int keys;
        int commands;
        final int[] kind = new int[COMMAND_ROOM];
        final int[] key = new int[COMMAND_ROOM];
        final int[] value = new int[COMMAND_ROOM];
        final int[] leader = new int[COMMAND_ROOM];
        final int[] clashes = new int[COMMAND_ROOM];
        final long[] name = new long[COMMAND_ROOM];

        void copyFrom(Group other) {
            replicas = other.replicas;
            keys = other.keys;
            commands = other.commands;
            System.arraycopy(other.kind, 0, kind, 0, COMMAND_ROOM);
            System.arraycopy(other.key, 0, key, 0, COMMAND_ROOM);
            System.arraycopy(other.value, 0, value, 0, COMMAND_ROOM);
            System.arraycopy(other.leader, 0, leader, 0, COMMAND_ROOM);
            System.arraycopy(other.clashes, 0, clashes, 0, COMMAND_ROOM);
            System.arraycopy(other.name, 0, name, 0, COMMAND_ROOM);
        }

        int commandNamed(long spelt) {
            for (int c = 0; c < commands; c++) {
                if (name[c] == spelt) {
                    return c;
                }
            }
            return NONE;
        }

        /** Works out once which COMMANDS CLASH: none of what it hangs on changes later. */
        void layClashes(Law law) {
            for (int c = 0; c < commands; c++) {
                clashes[c] = 0;
                for (int d = 0; d < c; d++) {
                    if (isClashByKind(c, d) || law.worth(this, c, d) != 0) {
                        clashes[c] |= 1 << d;
                        clashes[d] |= 1 << c;
                    }
                }
            }
        }

        private boolean isClashByKind(int command, int other) {
            if (kind[command] == WIPE || kind[other] == WIPE) {
                return true;
            }
            boolean isMild = kind[command] == kind[other] && (kind[command] == GET || kind[command] == ADD);
            return key[command] == key[other] && !isMild;
        }

        boolean isClash(int command, int other) {
            return ((clashes[command] >> other) & 1) != 0;
        }

        int most() {
            return replicas / 2 + 1;
        }

        int fast() {
            return replicas == REPLICA_ROOM ? 4 : 2;
        }

        int allReplicas() {
            return (1 << replicas) - 1;
        }
    }

    /** Rows of three numbers: the lines of a WORK (step, COMMAND, REPLICA), or what is SEEN. */
    private static final class Triples {
        int many;
        final int[] first;
        final int[] second;
        final int[] third;

        Triples(int room) {
            first = new int[room];
            second = new int[room];
            third = new int[room];
        }

        boolean add(int a, int b, int c) {
            if (many >= first.length) {
                return false;
            }
            first[many] = a;
            second[many] = b;
            third[many] = c;
            many++;
            return true;
        }

        /** Takes over what another one of the same room has. */
        void copyFrom(Triples other) {
            many = 0;
            for (int i = 0; i < other.many; i++) {
                add(other.first[i], other.second[i], other.third[i]);
            }
        }
    }

    /** How all is: what each REPLICA knows of each COMMAND, what it has RUN, and what came of it. */
    private static final class State {
        int up;
        int cleaned;
        final int[] status = new int[CELL_ROOM];
        final int[] ballot = new int[CELL_ROOM];
        final int[] seq = new int[CELL_ROOM];
        final int[] deps = new int[CELL_ROOM];
        final int[] got = new int[CELL_ROOM];
        final int[] order = new int[CELL_ROOM];
        final int[] ran = new int[REPLICA_ROOM];
        final int[] values = new int[REPLICA_ROOM * KEY_ROOM];
        final int[] host = new int[COMMAND_ROOM];
        final int[] answers = new int[COMMAND_ROOM];
        final int[] accepts = new int[COMMAND_ROOM];

        static int cellOf(int replica, int command) {
            return replica * COMMAND_ROOM + command;
        }

        void startAnew(Group group) {
            up = group.allReplicas();
            cleaned = 0;
            Arrays.fill(status, 0);
            Arrays.fill(ballot, 0);
            Arrays.fill(seq, 0);
            Arrays.fill(deps, 0);
            Arrays.fill(got, 0);
            Arrays.fill(order, 0);
            Arrays.fill(ran, 0);
            Arrays.fill(values, 0);
            System.arraycopy(group.leader, 0, host, 0, COMMAND_ROOM);
            Arrays.fill(answers, 0);
            Arrays.fill(accepts, 0);
        }

        void copyFrom(State other) {
            up = other.up;
            cleaned = other.cleaned;
            System.arraycopy(other.status, 0, status, 0, CELL_ROOM);
            System.arraycopy(other.ballot, 0, ballot, 0, CELL_ROOM);
            System.arraycopy(other.seq, 0, seq, 0, CELL_ROOM);
            System.arraycopy(other.deps, 0, deps, 0, CELL_ROOM);
            System.arraycopy(other.got, 0, got, 0, CELL_ROOM);
            System.arraycopy(other.order, 0, order, 0, CELL_ROOM);
            System.arraycopy(other.ran, 0, ran, 0, REPLICA_ROOM);
            System.arraycopy(other.values, 0, values, 0, REPLICA_ROOM * KEY_ROOM);
            System.arraycopy(other.host, 0, host, 0, COMMAND_ROOM);
            System.arraycopy(other.answers, 0, answers, 0, COMMAND_ROOM);
            System.arraycopy(other.accepts, 0, accepts, 0, COMMAND_ROOM);
        }

        boolean isUp(int replica) {
            return ((up >> replica) & 1) != 0;
        }

        /** No COMMAND but one that a RECOVER found nowhere has SEQ 0 when it is RUN. */
        boolean isEmptyAt(int cell) {
            return seq[cell] == 0;
        }

        /** The COMMANDS, as bits, whose STATUS at a REPLICA is from least to most. */
        int commandsAt(int replica, int least, int most) {
            int bits = 0;
            for (int c = 0; c < COMMAND_ROOM; c++) {
                int it = status[cellOf(replica, c)];
                if (it >= least && it <= most) {
                    bits |= 1 << c;
                }
            }
            return bits;
        }

        /** The REPLICAS, as bits, at which the STATUS of a COMMAND is from least to most. */
        int replicasWith(int command, int least, int most) {
            int bits = 0;
            for (int r = 0; r < REPLICA_ROOM; r++) {
                int it = status[cellOf(r, command)];
                if (it >= least && it <= most) {
                    bits |= 1 << r;
                }
            }
            return bits;
        }

        boolean isSame(int command, int replica, int other) {
            int cell = cellOf(replica, command);
            int second = cellOf(other, command);
            return seq[cell] == seq[second] && deps[cell] == deps[second];
        }

        /** The greatest SEQ of a COMMAND at some REPLICAS. */
        int greatestSeq(int command, int replicas) {
            int greatest = 0;
            for (int r = 0; r < REPLICA_ROOM; r++) {
                if (((replicas >> r) & 1) != 0) {
                    greatest = Math.max(greatest, seq[cellOf(r, command)]);
                }
            }
            return greatest;
        }

        /** All DEPS of a COMMAND at some REPLICAS, together. */
        int allDeps(int command, int replicas) {
            int bits = 0;
            for (int r = 0; r < REPLICA_ROOM; r++) {
                if (((replicas >> r) & 1) != 0) {
                    bits |= deps[cellOf(r, command)];
                }
            }
            return bits;
        }

        void lay(int cell, int newStatus, int newSeq, int newDeps) {
            status[cell] = newStatus;
            seq[cell] = newSeq;
            deps[cell] = newDeps;
        }

        int ranInAll() {
            int sum = 0;
            for (int r = 0; r < REPLICA_ROOM; r++) {
                sum += ran[r];
            }
            return sum;
        }

        /** At which place a REPLICA has RUN a COMMAND; NONE: it has not. */
        int placeOf(int replica, int command) {
            for (int i = 0; i < ran[replica]; i++) {
                if (order[cellOf(replica, i)] == command) {
                    return i;
                }
            }
            return NONE;
        }

        boolean isBefore(int replica, int command, int other) {
            int place = placeOf(replica, command);
            int second = placeOf(replica, other);
            return command != other && place != NONE && (second == NONE || second > place);
        }
    }

    /** A MARK: how all was, the WORK and what was SEEN when it was laid. */
    private static final class Mark {
        boolean laid;
        private final State state = new State();
        private final Triples work = new Triples(LINE_ROOM);
        private final Triples seen = new Triples(SEEN_ROOM);

        void hold(State how, Triples lines, Triples sights) {
            laid = true;
            state.copyFrom(how);
            work.copyFrom(lines);
            seen.copyFrom(sights);
        }

        void giveBack(State how, Triples lines, Triples sights) {
            how.copyFrom(state);
            lines.copyFrom(work);
            sights.copyFrom(seen);
        }
    }

    /** How all was ahead of each of the last steps. */
    private static final class History {
        // One more than can be undone: a step that can't be must not cost the oldest one.
        private static final int SLOTS = UNDO_ROOM + 1;

        private final State[] slots = new State[SLOTS];
        private int next;
        int many;

        History() {
            for (int i = 0; i < SLOTS; i++) {
                slots[i] = new State();
            }
        }

        void note(State state) {
            slots[next].copyFrom(state);
        }

        void keep() {
            next = (next + 1) % SLOTS;
            many = Math.min(many + 1, UNDO_ROOM);
        }

        boolean goBack(State state) {
            if (many == 0) {
                return false;
            }
            next = (next + SLOTS - 1) % SLOTS;
            many--;
            state.copyFrom(slots[next]);
            return true;
        }

        void forget() {
            many = 0;
        }
    }

    /** The steps: each answers NONE, and changes nothing, if it can't be. */
    private static final class Rules {
        private final Group group;
        private final Runs runs;
        private int foundSeq;
        private int foundDeps;

        Rules(Group group, Runs runs) {
            this.group = group;
            this.runs = runs;
        }

        int doStep(State state, int step, int command, int replica) {
            switch (step) {
                case PROPOSE: return doPropose(state, command);
                case ASK: return doAsk(state, command, replica);
                case DECIDE: return doDecide(state, command);
                case ACCEPT: return doAccept(state, command, replica);
                case SETTLE: return doSettle(state, command);
                case TELL: return doTell(state, command, replica);
                case RECOVER: return doRecover(state, command, replica);
                case RUN_ALL: return state.isUp(replica) ? runs.runParts(state, replica) : NONE;
                case DOWN: return doTurn(state, replica, true);
                case UP: return doTurn(state, replica, false);
                default: return doClean(state);
            }
        }

        private int doPropose(State state, int command) {
            int leader = group.leader[command];
            int cell = State.cellOf(leader, command);
            if (!state.isUp(leader) || !isUntouched(state, cell)) {
                return NONE;
            }
            int met = meets(state, leader, command);
            state.lay(cell, ASKED, behind(state, leader, met), met);
            state.answers[command] = 1 << leader;
            return state.seq[cell];
        }

        private int doAsk(State state, int command, int replica) {
            int leader = group.leader[command];
            int cell = State.cellOf(replica, command);
            if (!isAskedAtLeader(state, command) || replica == leader || !state.isUp(replica)
                    || !isUntouched(state, cell)) {
                return NONE;
            }
            int from = State.cellOf(leader, command);
            int met = meets(state, replica, command);
            int seq = Math.max(state.seq[from], behind(state, replica, met));
            state.lay(cell, ASKED, seq, state.deps[from] | met);
            state.answers[command] |= 1 << replica;
            return state.isSame(command, leader, replica) ? 1 : 0;
        }

        private int doDecide(State state, int command) {
            if (!canDecide(state, command)) {
                return NONE;
            }
            int leader = group.leader[command];
            int cell = State.cellOf(leader, command);
            if (isDecidedAtOnce(state, command)) {
                state.status[cell] = COMMITTED;
                return 1;
            }
            int answers = state.answers[command];
            state.lay(cell, ACCEPTED, state.greatestSeq(command, answers), state.allDeps(command, answers));
            state.accepts[command] = 1 << leader;
            return 0;
        }

        private int doAccept(State state, int command, int replica) {
            int host = state.host[command];
            int from = State.cellOf(host, command);
            int cell = State.cellOf(replica, command);
            if (!isAcceptedAtHost(state, command) || !state.isUp(replica) || state.status[cell] >= COMMITTED
                    || state.ballot[cell] > state.ballot[from] || ((state.accepts[command] >> replica) & 1) != 0) {
                return NONE;
            }
            state.lay(cell, ACCEPTED, state.seq[from], state.deps[from]);
            state.ballot[cell] = state.ballot[from];
            state.accepts[command] |= 1 << replica;
            return Integer.bitCount(state.accepts[command]);
        }

        private int doSettle(State state, int command) {
            if (!isAcceptedAtHost(state, command)
                    || Integer.bitCount(state.accepts[command]) < group.most()) {
                return NONE;
            }
            state.status[State.cellOf(state.host[command], command)] = COMMITTED;
            return 1;
        }

        private int doTell(State state, int command, int replica) {
            int cell = State.cellOf(replica, command);
            int teller = firstOf(state.replicasWith(command, COMMITTED, RUN) & state.up);
            if (!state.isUp(replica) || state.status[cell] >= COMMITTED || teller == NONE) {
                return NONE;
            }
            int from = State.cellOf(teller, command);
            state.lay(cell, COMMITTED, state.seq[from], state.deps[from]);
            return 1;
        }

        private int doRecover(State state, int command, int replica) {
            if (!canRecover(state, command, replica)) {
                return NONE;
            }
            int found = find(state, state.up, command);
            int ballot = 0;
            for (int r = 0; r < group.replicas; r++) {
                if (state.isUp(r)) {
                    ballot = Math.max(ballot, state.ballot[State.cellOf(r, command)]);
                }
            }
            for (int r = 0; r < group.replicas; r++) {
                if (state.isUp(r)) {
                    state.ballot[State.cellOf(r, command)] = ballot + 1;
                }
            }
            boolean isEnded = found == 4;
            state.host[command] = replica;
            state.answers[command] = 0;
            state.accepts[command] = isEnded ? 0 : 1 << replica;
            state.lay(State.cellOf(replica, command), isEnded ? COMMITTED : ACCEPTED, foundSeq, foundDeps);
            return found;
        }

        private int doTurn(State state, int replica, boolean isUpNow) {
            if (state.isUp(replica) != isUpNow) {
                return NONE;
            }
            state.up ^= 1 << replica;
            return 1;
        }

        private int doClean(State state) {
            int old = state.cleaned;
            for (int r = 0; r < group.replicas; r++) {
                state.cleaned |= ranEverywhere(state, r);
            }
            for (int i = 0; i < CELL_ROOM; i++) {
                state.deps[i] &= ~state.cleaned;
            }
            return Integer.bitCount(state.cleaned & ~old);
        }

        boolean canDecide(State state, int command) {
            return isAskedAtLeader(state, command) && Integer.bitCount(state.answers[command]) >= group.most();
        }

        /** Whether a DECIDE that can be is at once. */
        boolean isDecidedAtOnce(State state, int command) {
            int cell = State.cellOf(group.leader[command], command);
            int answers = state.answers[command];
            return Integer.bitCount(answers) >= group.fast()
                    && state.greatestSeq(command, answers) == state.seq[cell]
                    && state.allDeps(command, answers) == state.deps[cell];
        }

        boolean canRecover(State state, int command, int replica) {
            return state.isUp(replica) && state.status[State.cellOf(replica, command)] < COMMITTED
                    && Integer.bitCount(state.up) >= group.most();
        }

        /** What a RECOVER among some REPLICAS FINDS; the SEQ and DEPS it takes are kept. */
        int find(State state, int among, int command) {
            int committed = firstOf(state.replicasWith(command, COMMITTED, RUN) & among);
            if (committed != NONE) {
                return keepFound(state, State.cellOf(committed, command), 4);
            }
            int accepted = latestAccepted(state, among, command);
            if (accepted != NONE) {
                return keepFound(state, State.cellOf(accepted, command), 3);
            }
            int asked = state.replicasWith(command, ASKED, ASKED) & among;
            int alike = firstAlike(state, asked & ~(1 << group.leader[command]), command);
            if (alike != NONE) {
                return keepFound(state, State.cellOf(alike, command), 2);
            }
            foundSeq = state.greatestSeq(command, asked);
            foundDeps = state.allDeps(command, asked);
            for (int r = 0; r < group.replicas && asked != 0; r++) {
                if (((among >> r) & 1) != 0) {
                    int met = meets(state, r, command);
                    foundSeq = Math.max(foundSeq, behind(state, r, met));
                    foundDeps |= met;
                }
            }
            return asked == 0 ? 0 : 1;
        }

        boolean wouldFindOther(State state, int among, int command, int cell) {
            find(state, among, command);
            return foundSeq != state.seq[cell] || foundDeps != state.deps[cell];
        }

        private int keepFound(State state, int cell, int found) {
            foundSeq = state.seq[cell];
            foundDeps = state.deps[cell];
            return found;
        }

        private int latestAccepted(State state, int among, int command) {
            int bits = state.replicasWith(command, ACCEPTED, ACCEPTED) & among;
            int best = NONE;
            int greatest = NONE;
            for (int r = 0; r < group.replicas; r++) {
                int ballot = state.ballot[State.cellOf(r, command)];
                if (((bits >> r) & 1) != 0 && ballot > greatest) {
                    greatest = ballot;
                    best = r;
                }
            }
            return best;
        }

        /** The first of some REPLICAS whose SEQ and DEPS half of all REPLICAS, cut, have among these. */
        private int firstAlike(State state, int among, int command) {
            for (int r = 0; r < group.replicas; r++) {
                int alike = 0;
                for (int o = 0; o < group.replicas; o++) {
                    if (((among >> o) & 1) != 0 && state.isSame(command, r, o)) {
                        alike++;
                    }
                }
                if (((among >> r) & 1) != 0 && alike >= group.replicas / 2) {
                    return r;
                }
            }
            return NONE;
        }

        /** The COMMANDS of a LEADER, as bits, from the first one on, that all REPLICAS have RUN. */
        int ranEverywhere(State state, int leader) {
            int bits = 0;
            for (int c = 0; c < group.commands; c++) {
                if (group.leader[c] == leader) {
                    if (state.replicasWith(c, RUN, RUN) != group.allReplicas()) {
                        return bits;
                    }
                    bits |= 1 << c;
                }
            }
            return bits;
        }

        private int meets(State state, int replica, int command) {
            return state.commandsAt(replica, ASKED, RUN) & group.clashes[command] & ~state.cleaned;
        }

        /** What a COMMAND is BEHIND at a REPLICA at which it MEETS these. */
        private int behind(State state, int replica, int met) {
            int greatest = 0;
            for (int c = 0; c < group.commands; c++) {
                if (((met >> c) & 1) != 0) {
                    greatest = Math.max(greatest, state.seq[State.cellOf(replica, c)]);
                }
            }
            return greatest + 1;
        }

        private static boolean isUntouched(State state, int cell) {
            return state.status[cell] == UNKNOWN && state.ballot[cell] == 0;
        }

        private boolean isAskedAtLeader(State state, int command) {
            int leader = group.leader[command];
            int cell = State.cellOf(leader, command);
            return state.isUp(leader) && state.status[cell] == ASKED && state.ballot[cell] == 0;
        }

        private static boolean isAcceptedAtHost(State state, int command) {
            int host = state.host[command];
            return state.isUp(host) && state.status[State.cellOf(host, command)] == ACCEPTED;
        }
    }

    /** How COMMITTED COMMANDS lean on one another at a REPLICA, and are RUN. */
    private static final class Runs {
        private final Group group;
        private final int[] leans = new int[COMMAND_ROOM];
        private int committed;

        Runs(Group group) {
            this.group = group;
        }

        /** Works out, of each COMMAND COMMITTED at a REPLICA, what it leans on there. */
        void lookAt(State state, int replica) {
            committed = state.commandsAt(replica, COMMITTED, COMMITTED);
            int done = state.commandsAt(replica, RUN, RUN);
            for (int c = 0; c < COMMAND_ROOM; c++) {
                leans[c] = isCommitted(c) ? state.deps[State.cellOf(replica, c)] & ~done : 0;
            }
            // Each COMMAND in turn as a step between two others: then all ways are found.
            for (int by = 0; by < COMMAND_ROOM; by++) {
                for (int c = 0; c < COMMAND_ROOM; c++) {
                    if (((leans[c] >> by) & 1) != 0) {
                        leans[c] |= leans[by];
                    }
                }
            }
        }

        private boolean isCommitted(int command) {
            return ((committed >> command) & 1) != 0;
        }

        /** The PART of a COMMAND, as bits, by what was looked at last. */
        int partOf(int command) {
            int bits = 1 << command;
            for (int c = 0; c < COMMAND_ROOM; c++) {
                if (((leans[command] >> c) & 1) != 0 && ((leans[c] >> command) & 1) != 0) {
                    bits |= 1 << c;
                }
            }
            return bits;
        }

        /** RUNS all that can be, whether the REPLICA is up or not: how many. */
        int runParts(State state, int replica) {
            int old = state.ran[replica];
            // Each round runs one COMMAND or more.
            for (int round = 0; round < COMMAND_ROOM; round++) {
                lookAt(state, replica);
                int head = leastFree(state, replica);
                if (head == NONE) {
                    break;
                }
                runPart(state, replica, partOf(head));
            }
            return state.ran[replica] - old;
        }

        /** The COMMAND with the least SEQ of all PARTS that lean on no other one; NONE: there is none. */
        private int leastFree(State state, int replica) {
            int best = NONE;
            for (int c = 0; c < group.commands; c++) {
                if (isCommitted(c) && (leans[c] & ~partOf(c)) == 0) {
                    best = lesser(state, replica, best, c);
                }
            }
            return best;
        }

        private void runPart(State state, int replica, int part) {
            int left = part;
            for (int i = 0; i < COMMAND_ROOM && left != 0; i++) {
                int next = NONE;
                for (int c = 0; c < group.commands; c++) {
                    if (((left >> c) & 1) != 0) {
                        next = lesser(state, replica, next, c);
                    }
                }
                if (next == NONE) {
                    return;
                }
                left &= ~(1 << next);
                runOne(state, replica, next);
            }
        }

        /** The one with the lesser SEQ; the first one if they are equal, which has the lesser number. */
        private static int lesser(State state, int replica, int first, int second) {
            if (first == NONE) {
                return second;
            }
            int seq = state.seq[State.cellOf(replica, first)];
            return state.seq[State.cellOf(replica, second)] < seq ? second : first;
        }

        private void runOne(State state, int replica, int command) {
            int cell = State.cellOf(replica, command);
            int place = state.ran[replica];
            if (place >= COMMAND_ROOM) {
                return;
            }
            state.status[cell] = RUN;
            state.order[State.cellOf(replica, place)] = command;
            state.ran[replica] = place + 1;
            if (!state.isEmptyAt(cell)) {
                takeEffect(state, replica, command);
            }
        }

        private void takeEffect(State state, int replica, int command) {
            int key = replica * KEY_ROOM + group.key[command];
            int value = group.value[command];
            switch (group.kind[command]) {
                case PUT:
                    state.values[key] = value;
                    break;
                case ADD:
                    state.values[key] = (state.values[key] + value) % 1000;
                    break;
                case GET:
                    state.got[State.cellOf(replica, command)] = state.values[key];
                    break;
                default:
                    for (int k = 0; k < KEY_ROOM; k++) {
                        state.values[replica * KEY_ROOM + k] = 0;
                    }
                    break;
            }
        }

        /** Whether what CLASHES and both REPLICAS have RUN was RUN in one order by both. */
        boolean isAgreed(State state, int replica, int other) {
            int both = state.commandsAt(replica, RUN, RUN) & state.commandsAt(other, RUN, RUN);
            for (int c = 0; c < group.commands; c++) {
                for (int d = 0; d < c; d++) {
                    boolean isBoth = ((both >> c) & 1) != 0 && ((both >> d) & 1) != 0;
                    if (isBoth && group.isClash(c, d)
                            && state.isBefore(replica, c, d) != state.isBefore(other, c, d)) {
                        return false;
                    }
                }
            }
            return true;
        }
    }
}
