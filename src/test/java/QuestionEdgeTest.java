/** The boundary cases that the document's third part of "Terms" and promises 1, 5 to 10 and 25 to 46 name. */
public final class QuestionEdgeTest {
    /** a, b, c CLASH with one another, d with none. */
    private static final String THREE = "replicas 3;keys 2;command a put key 0 value 5 at 0;"
            + "command b add key 0 value 3 at 1;command c get key 0 value 0 at 2;command d put key 1 value 9 at 0;";
    private static final String FIVE = THREE.replace("replicas 3", "replicas 5");
    private static final String PAIR = "replicas 3;keys 1;command a put key 0 value 5 at 0;"
            + "command b put key 0 value 7 at 1;";
    /** a is COMMITTED at 0, b, which leans on it, at 1. */
    private static final String TWO = "propose(0)=1 ask(0,1)=1 decide(0)=1 propose(1)=2 ask(1,0)=1 decide(1)=1 ";
    /** a leans on b, b on c, c on a; each is COMMITTED at its LEADER. */
    private static final String TRIANGLE = "propose(0)=1 propose(1)=1 propose(2)=1 ask(0,1)=0 decide(0)=0 ask(1,2)=0 "
            + "decide(1)=0 ask(2,0)=0 decide(2)=0 accept(0,2)=2 settle(0)=true accept(1,0)=2 settle(1)=true accept(2,1)=2 "
            + "settle(2)=true known(0,0,3)=2 known(1,1,3)=4 known(2,2,3)=1 ";
    /** Of PAIR: a is COMMITTED at 0 with SEQ 1 and at 2 with SEQ 0, ACCEPTED at 1. */
    private static final String TORN = "propose(0)=1 recover(0,0)=1 down(0)=true recover(0,2)=0 accept(0,1)=2 "
            + "settle(0)=true down(2)=true up(0)=true recover(0,1)=3 recover(0,0)=3 accept(0,1)=2 settle(0)=true "
            + "up(2)=true ";
    /** c CLASHES with x and y; it is COMMITTED at 0 and 2 with SEQ 2, but with other DEPS, ACCEPTED at 1. */
    private static final String SIDE = "replicas 3;keys 2;command x put key 0 value 1 at 0;"
            + "command y put key 1 value 2 at 1;command c get key 0 value 3 at 0;clashes low=2 and high=3;";
    private static final String SIDE_TORN = "propose(0)=1 propose(1)=1 propose(2)=2 ask(2,1)=0 down(1)=true recover(2,0)=1 "
            + "known(0,2,2)=2 known(0,2,3)=1 up(1)=true down(0)=true recover(2,2)=2 accept(2,1)=2 settle(2)=true "
            + "down(2)=true up(0)=true recover(2,1)=3 recover(2,0)=3 accept(2,1)=2 settle(2)=true up(2)=true known(0,2,2)=2 "
            + "known(0,2,3)=1 known(2,2,2)=2 known(2,2,3)=3 ";
    /** Of PAIR: 0 has RUN a, which is EMPTY, ahead of b, 1 behind it, 2 nothing. */
    private static final String QUARREL = "propose(1)=1 ask(1,2)=1 decide(1)=1 run(1)=1 down(0)=true recover(0,1)=0 "
            + "accept(0,2)=2 settle(0)=true run(1)=1 up(0)=true tell(0,0)=true run(0)=1 tell(1,0)=true run(0)=1 ";

    private QuestionEdgeTest() { }

    public static void main(String[] args) {
        newObject();
        others();
        command();
        known();
        replica();
        order();
        value();
        got();
        lone();
        heap();
        union();
        quick();
        waits();
        readyAndPlan();
        part();
        one();
        agree();
        before();
        bare();
        level();
        stuck();
        risk();
        riskOfFive();
        see();
        who();
        look();
        drives();
        drivesFromNow();
        mark();
        markHolds();
        count();
        askingChangesNothing();
        Check.end("QuestionEdgeTest");
    }

    private static void says(String words) {
        Check.says(words);
    }

    private static LeaderlessOrder made(String group, String calls) {
        return Calls.made(group, calls);
    }

    /** Each call with what is no COMMAND, REPLICA, KEY or what: one argument at a time, all others good. */
    private static void refused(LeaderlessOrder x, String call, int place, String limit, String want) {
        String[] words = call.substring(call.indexOf('(') + 1, call.length() - 1).split(",");
        for (String no : (limit + " 8 9 16 31 32 33 64 -1 -2 -32 MIN MAX").split(" ")) {
            if (no.matches("[0-9]+") && limit.matches("[0-9]+") && Integer.parseInt(no) < Integer.parseInt(limit)) {
                continue;
            }
            words[place] = no;
            Calls.due(x, call.substring(0, call.indexOf('(') + 1) + String.join(",", words) + ")=" + want);
        }
    }

    private static void newObject() {
        says("LeaderlessOrder(): Nothing / At first: nothing");
        LeaderlessOrder x = new LeaderlessOrder();
        Calls.due(x, "count(0)=0 count(1)=0 count(2)=0 count(3)=0 count(4)=0 count(5)=0 count(6)=0 count(7)=0 count(8)=0 "
                + "count(9)=0 command(0,0)=NONE known(0,0,0)=NONE replica(0,0)=NONE order(0,0)=throws value(0,0)=NONE "
                + "got(0,0)=NONE clash(0,1)=false propose(0)=NONE ask(0,1)=NONE decide(0)=NONE accept(0,1)=NONE "
                + "settle(0)=false tell(0,1)=false down(0)=false up(0)=false recover(0,0)=NONE run(0)=NONE undo()=false "
                + "judged(0)=NONE judged(1)=NONE judged(2)=0 judged(3)=-2 lone()=0 heap(0)=NONE union(0,0)=NONE "
                + "quick(0)=false waits(0)=NONE ready(0)=NONE plan(0,0)=NONE part(0,0)=NONE one(0)=false agree(0,0)=false "
                + "before(0,0,1)=false bare(0)=NONE level(0)=NONE stuck()=0 finds(0,0)=NONE risk(0)=NONE "
                + "see(0,1,true)=false see(0,1,false)=false who()=0 look()=NONE drives(0,1,0)=0 drives(0,1,1)=0 "
                + "drives(0,1,2)=0 mark(0,true)=false count(8)=0 clean()=0");
        Check.due("NONE", LeaderlessOrder.NONE, -1);
    }

    private static void others() {
        says("NONE: others / false: others / -2: others (no COMMAND, REPLICA, KEY or what)");
        LeaderlessOrder x = made(THREE, TWO + "tell(1,0)=true run(0)=2 propose(3)=1 ");
        String[] commandFirst = {"command(0,0) NONE", "clash(0,1) false", "propose(0) NONE", "ask(3,1) NONE",
            "decide(0) NONE", "accept(3,1) NONE", "settle(3) false", "tell(0,1) false", "recover(3,1) NONE",
            "heap(0) NONE", "union(0,0) NONE", "quick(0) false", "one(0) false", "finds(3,1) NONE", "risk(0) NONE",
            "see(0,1,true) false"};
        for (String row : commandFirst) {
            refused(x, row.split(" ")[0], 0, "4", row.split(" ")[1]);
        }
        String[] commandSecond = {"known(0,0,0) NONE", "got(0,2) NONE", "clash(0,1) false", "part(0,0) NONE",
            "before(0,0,1) false", "see(0,1,true) false"};
        for (String row : commandSecond) {
            refused(x, row.split(" ")[0], 1, "4", row.split(" ")[1]);
        }
        refused(x, "before(0,0,1)", 2, "4", "false");
        String[] replicaFirst = {"known(0,0,0) NONE", "replica(0,0) NONE", "order(0,0) throws", "value(0,0) NONE",
            "got(0,2) NONE", "down(0) false", "up(0) false", "run(0) NONE", "waits(0) NONE", "ready(0) NONE",
            "plan(0,0) NONE", "part(0,0) NONE", "agree(0,0) false", "before(0,0,1) false", "bare(0) NONE",
            "level(0) NONE"};
        for (String row : replicaFirst) {
            refused(x, row.split(" ")[0], 0, "3", row.split(" ")[1]);
        }
        String[] replicaSecond = {"ask(3,1) NONE", "accept(3,1) NONE", "tell(0,1) false", "recover(3,1) NONE",
            "agree(0,0) false", "finds(3,1) NONE"};
        for (String row : replicaSecond) {
            refused(x, row.split(" ")[0], 1, "3", row.split(" ")[1]);
        }
        refused(x, "order(0,0)", 1, "2", "throws");
        refused(x, "value(0,0)", 1, "2", "NONE");
        refused(x, "plan(0,0)", 1, "0", "NONE");
        refused(x, "command(0,0)", 1, "8", "NONE");
        refused(x, "known(0,0,0)", 2, "4", "NONE");
        refused(x, "replica(0,0)", 1, "4", "NONE");
        refused(x, "judged(0)", 0, "3", "-2");
        refused(x, "union(0,0)", 1, "2", "NONE");
        refused(x, "count(0)", 0, "10", "NONE");
        refused(x, "mark(0,false)", 0, "4", "false");
        refused(x, "mark(0,true)", 0, "0", "false");
        refused(x, "drives(0,1,0)", 2, "3", "NONE");
        Calls.due(x, "count(8)=9 count(7)=0 count(5)=2");
        // The last ones that are good, of 5 REPLICAS and 8 COMMANDS.
        LeaderlessOrder y = Check.made(eight());
        Calls.due(y, "command(7,3)=4 known(4,7,0)=0 replica(4,0)=1 value(4,3)=0 value(4,4)=NONE clash(7,6)=true "
                + "heap(7)=255 propose(7)=1 ask(7,0)=1 finds(7,3)=1 level(4)=0 bare(4)=0 waits(4)=0 ready(4)=0 agree(4,3)=true "
                + "one(7)=true see(7,6,true)=true down(4)=true up(4)=true run(4)=0 command(8,0)=NONE known(5,7,0)=NONE "
                + "propose(8)=NONE down(5)=false");
    }

    private static String eight() {
        StringBuilder s = new StringBuilder("replicas 5;keys 4;");
        for (int i = 0; i < 8; i++) {
            s.append("command c").append((char) ('a' + i)).append(" put key 0 value 1 at 4;");
        }
        return s.toString();
    }

    // ---- promises 5 to 10 ----

    private static void command() {
        says("command: what 0: KIND (0 put, 1 add, 2 get, 3 wipe), 1: KEY, 2: value, 3: LEADER, 4: HOST, 5: ANSWERS, 6: "
                + "ACCEPTS, as bits, 7: 1 CLEANED; NONE: others");
        made("replicas 5;keys 4;command a wipe key 3 value 99 at 4;command b get key 2 value 0 at 1;",
                "command(0,0)=3 command(0,1)=3 command(0,2)=99 command(0,3)=4 command(0,4)=4 command(0,5)=0 command(0,6)=0 "
                + "command(0,7)=0 command(0,8)=NONE command(0,-1)=NONE command(2,0)=NONE command(1,0)=2 command(1,1)=2 "
                + "command(1,2)=0 command(1,3)=1 propose(0)=1 ask(0,0)=1 ask(0,2)=1 command(0,5)=21 decide(0)=0 "
                + "command(0,6)=16 accept(0,3)=2 command(0,6)=24 recover(0,1)=3 command(0,3)=4 command(0,4)=1 "
                + "command(0,5)=0 command(0,6)=2");
        made(THREE, "propose(0)=1 ask(0,1)=1 decide(0)=1 tell(0,1)=true tell(0,2)=true run(0)=1 run(1)=1 run(2)=1 "
                + "command(0,7)=0 clean()=1 command(0,7)=1 command(1,7)=0 undo()=true command(0,7)=0");
    }

    private static void known() {
        says("known: what 0: STATUS, 1: BALLOT, 2: SEQ, 3: DEPS, as bits; NONE: others");
        made(THREE, TWO + "known(0,0,0)=3 known(1,0,0)=1 known(2,0,0)=0 known(1,1,0)=3 known(1,1,1)=0 known(1,1,2)=2 "
                + "known(1,1,3)=1 run(0)=1 known(0,0,0)=4 known(0,0,2)=1 known(0,0,4)=NONE known(0,0,-1)=NONE "
                + "recover(1,2)=4 known(1,1,1)=1 known(2,1,1)=1 known(2,1,3)=1 down(2)=true known(2,1,0)=3");
        made(THREE, "recover(0,1)=0 known(1,0,0)=2 known(1,0,1)=1 known(1,0,2)=0 known(1,0,3)=0");
    }

    private static void replica() {
        says("replica: what 0: 1 up, 1: how many it has RUN, 2: COMMITTED ones (not RUN), 3: RUN ones, as bits; NONE: "
                + "others");
        made(THREE, TWO + "replica(0,0)=1 replica(0,1)=0 replica(0,2)=1 replica(0,3)=0 run(0)=1 replica(0,1)=1 "
                + "replica(0,2)=0 replica(0,3)=1 tell(1,0)=true replica(0,2)=2 replica(0,3)=1 run(0)=1 replica(0,1)=2 "
                + "replica(0,2)=0 replica(0,3)=3 down(0)=true replica(0,0)=0 replica(0,1)=2 replica(0,4)=NONE "
                + "replica(0,-1)=NONE replica(3,0)=NONE replica(2,1)=0 replica(2,2)=0");
    }

    private static void order() {
        says("order: The i-th COMMAND (from 0) that a REPLICA has RUN. NoSuchElementException: others, none such");
        made(THREE, TWO + "order(0,0)=throws order(1,0)=throws tell(1,0)=true order(0,0)=throws run(0)=2 order(0,0)=0 "
                + "order(0,1)=1 order(0,2)=throws order(0,-1)=throws order(0,7)=throws order(0,8)=throws order(0,MAX)=throws "
                + "order(0,MIN)=throws order(1,0)=throws order(2,0)=throws order(3,0)=throws order(-1,0)=throws "
                + "order(MAX,0)=throws order(MIN,0)=throws undo()=true order(0,0)=throws");
        StringBuilder calls = new StringBuilder();
        for (int i = 0; i < 8; i++) {
            calls.append("propose(" + i + ")=" + (i + 1) + " ask(" + i + ",1)=1 ask(" + i + ",2)=1 ask(" + i + ",3)=1 decide("
                    + i + ")=1 ");
        }
        made(eight(), calls + "run(4)=8 order(4,7)=7 order(4,8)=throws order(3,7)=throws plan(4,0)=NONE");
    }

    private static void value() {
        says("value: What a KEY is at a REPLICA; NONE: others");
        made(THREE, TWO + "value(0,0)=0 value(0,1)=0 value(0,2)=NONE value(0,3)=NONE value(0,-1)=NONE value(3,0)=NONE "
                + "run(0)=1 value(0,0)=5 value(0,1)=0 value(1,0)=0 down(0)=true value(0,0)=5");
        made("replicas 3;keys 1;", "value(0,0)=0 value(2,0)=0 value(0,1)=NONE");
        made("replicas 3;", "value(0,0)=NONE");
        made("keys 4;", "value(0,0)=NONE");
    }

    private static void got() {
        says("got: NONE: others, no get, it is not RUN there, it is EMPTY");
        String group = "replicas 3;keys 1;command a get key 0 value 9 at 0;command b put key 0 value 9 at 0;"
                + "command c add key 0 value 9 at 0;command d wipe key 0 value 9 at 0;command e get key 0 value 0 at 0;";
        made(group, "propose(0)=1 got(0,0)=NONE ask(0,1)=1 decide(0)=1 got(0,0)=NONE run(0)=1 got(0,0)=0 got(1,0)=NONE "
                + "tell(0,1)=true got(1,0)=NONE propose(1)=2 ask(1,2)=1 decide(1)=1 propose(2)=3 ask(2,2)=1 decide(2)=1 "
                + "propose(4)=4 ask(4,2)=1 decide(4)=1 propose(3)=5 ask(3,2)=1 decide(3)=1 run(0)=4 got(0,0)=0 got(0,1)=NONE "
                + "got(0,2)=NONE got(0,3)=NONE got(0,4)=18 got(0,5)=NONE got(0,-1)=NONE got(3,0)=NONE got(-1,0)=NONE "
                + "undo()=true got(0,4)=NONE got(0,0)=0");
        made(group, "down(0)=true recover(0,1)=0 accept(0,2)=2 settle(0)=true got(1,0)=NONE run(1)=1 known(1,0,0)=4 "
                + "got(1,0)=NONE");
    }

    // ---- promises 25 to 32 ----

    private static void lone() {
        says("LONE: COMMANDS that CLASH with none (bits)");
        made(THREE, "lone()=8");
        made(PAIR, "lone()=0");
        made(THREE + "clashes 1;", "lone()=0");
        made("replicas 3;keys 1;command a put key 0 value 0 at 0;", "lone()=1");
        made("replicas 3;keys 1;", "lone()=0");
        made("replicas 3;keys 1;command a wipe key 0 value 0 at 0;", "lone()=1");
        made(eight().replace("put", "add"), "lone()=255");
    }

    private static void heap() {
        says("HEAP of a COMMAND: all that CLASH with it, on and on, it, too (bits) / NONE: others");
        made(THREE, "heap(0)=7 heap(1)=7 heap(2)=7 heap(3)=8 heap(4)=NONE heap(-1)=NONE");
        // A row of eight, each of which CLASHES with its neighbours alone, told so that the way goes to and fro.
        String[] values = {"8", "1", "7", "2", "6", "3", "5", "4"};
        StringBuilder row = new StringBuilder("replicas 3;keys 1;clashes high-low=1;");
        for (int i = 0; i < 8; i++) {
            row.append("command c").append((char) ('a' + i)).append(" get key 0 value ").append(values[i]).append(" at 0;");
        }
        LeaderlessOrder x = Check.made(row.toString());
        for (int c = 0; c < 8; c++) {
            Check.due("heap(" + c + ")", x.heap(c), 255);
        }
        LeaderlessOrder y = Check.made(row.toString().replace("value 4 ", "value 40 "));
        Calls.due(y, "heap(0)=85 heap(1)=42 heap(2)=85 heap(3)=42 heap(4)=85 heap(5)=42 heap(6)=85 heap(7)=128 lone()=128");
    }

    private static void union() {
        says("UNION of a COMMAND: all DEPS of its ANSWERS, together, and the greatest of their SEQS / what 0: SEQ, 1: "
                + "DEPS, as bits; NONE: others");
        made(THREE, "union(0,0)=0 union(0,1)=0 propose(1)=1 propose(2)=1 propose(0)=1 union(0,0)=1 union(0,1)=0 ask(0,1)=0 "
                + "union(0,0)=2 union(0,1)=2 ask(0,2)=0 union(0,0)=2 union(0,1)=6 down(0)=true down(1)=true union(0,0)=2 "
                + "union(0,1)=6 union(0,2)=NONE union(0,-1)=NONE union(4,0)=NONE union(4,1)=NONE union(-1,0)=NONE "
                + "up(1)=true recover(0,1)=2 union(0,0)=0 union(0,1)=0");
    }

    private static void quick() {
        says("QUICK: whether DECIDE would be at once now / false: others, it can't be");
        made(THREE, "quick(0)=false propose(0)=1 quick(0)=false ask(0,1)=1 quick(0)=true quick(0)=true known(0,0,0)=1 "
                + "count(8)=2 down(1)=true quick(0)=true down(0)=true quick(0)=false up(0)=true decide(0)=1 quick(0)=false "
                + "run(0)=1 quick(0)=false quick(4)=false quick(-1)=false");
        made(THREE, "propose(1)=1 propose(0)=1 ask(0,1)=0 quick(0)=false ask(0,2)=1 quick(0)=false");
        made(FIVE, "propose(0)=1 ask(0,1)=1 ask(0,2)=1 quick(0)=false ask(0,3)=1 quick(0)=true ask(0,4)=1 quick(0)=true");
    }

    private static void waits() {
        says("WAITS of a REPLICA: COMMANDS not COMMITTED there, nor RUN, that are among the DEPS of those COMMITTED there "
                + "(bits)");
        made(THREE, TWO + "waits(0)=0 waits(1)=1 known(1,0,0)=1 waits(2)=0 down(1)=true waits(1)=1 up(1)=true tell(0,1)=true "
                + "waits(1)=0 run(1)=2 waits(1)=0 tell(1,2)=true known(2,0,0)=0 waits(2)=1 recover(0,2)=4 waits(2)=0 "
                + "waits(3)=NONE waits(-1)=NONE");
        made(THREE, TRIANGLE + "waits(0)=2 waits(1)=4 known(0,1,0)=2 waits(2)=1 tell(0,2)=true waits(2)=2 tell(1,2)=true "
                + "waits(2)=0");
        // What is ASKED or ACCEPTED alone waits for nothing.
        made(THREE, "propose(1)=1 ask(1,0)=1 propose(0)=2 known(0,0,3)=2 waits(0)=0");
    }

    private static void readyAndPlan() {
        says("READY: those that RUN would run there now, were it up (bits); PLAN: the i-th of these / NONE: others, none "
                + "such");
        made(THREE, TWO + "ready(0)=1 plan(0,0)=0 plan(0,1)=NONE ready(1)=0 plan(1,0)=NONE ready(2)=0 tell(0,1)=true "
                + "ready(1)=3 plan(1,0)=0 plan(1,1)=1 plan(1,2)=NONE plan(1,7)=NONE plan(1,8)=NONE plan(1,-1)=NONE "
                + "plan(1,MAX)=NONE plan(1,MIN)=NONE down(1)=true ready(1)=3 plan(1,1)=1 known(1,0,0)=3 value(1,0)=0 count(5)=0 "
                + "up(1)=true run(1)=2 ready(1)=0 plan(1,0)=NONE ready(3)=NONE plan(3,0)=NONE");
        made(THREE, TWO + "plan(0,0)=0 plan(1,0)=NONE tell(0,1)=true plan(1,1)=1 plan(0,0)=0 ready(2)=0 plan(1,0)=0");
        made(THREE, TWO + "run(0)=1 tell(1,0)=true ready(0)=2 plan(0,0)=1 plan(0,1)=NONE plan(0,7)=NONE plan(0,MAX)=NONE");
        made(THREE, TRIANGLE + "ready(0)=0 tell(1,0)=true ready(0)=0 tell(2,0)=true ready(0)=7 plan(0,0)=0 plan(0,1)=1 "
                + "plan(0,2)=2 plan(0,3)=NONE");
        StringBuilder calls = new StringBuilder();
        for (int i = 7; i >= 0; i--) {
            calls.append("propose(" + i + ")=" + (8 - i) + " ask(" + i + ",1)=1 ask(" + i + ",2)=1 ask(" + i + ",3)=1 decide("
                    + i + ")=1 ");
        }
        made(eight(), calls + "ready(4)=255 plan(4,0)=7 plan(4,7)=0 plan(4,8)=NONE run(4)=8 ready(4)=0 plan(4,0)=NONE "
                + "plan(4,7)=NONE");
    }

    private static void part() {
        says("PART of a COMMAND that is COMMITTED at a REPLICA: those COMMITTED there that it leans on there (by DEPS of "
                + "what is COMMITTED there) and that lean on it, it, too (bits) / NONE: others, not COMMITTED");
        made(THREE, TRIANGLE + "part(0,0)=1 part(0,1)=NONE known(0,1,0)=2 part(0,2)=NONE part(0,3)=NONE tell(1,0)=true "
                + "part(0,0)=1 part(0,1)=2 known(0,2,0)=1 known(0,2,3)=1 tell(2,0)=true part(0,0)=7 part(0,1)=7 part(0,2)=7 "
                + "down(0)=true part(0,0)=7 up(0)=true run(0)=3 part(0,0)=NONE part(0,2)=NONE part(3,0)=NONE part(0,4)=NONE");
        made(THREE, TWO + "tell(1,0)=true part(0,0)=1 part(0,1)=2");
        // d, of no PART, is COMMITTED beside.
        made(THREE, TRIANGLE + "tell(1,0)=true tell(2,0)=true propose(3)=1 ask(3,1)=1 decide(3)=1 part(0,3)=8 part(0,0)=7");
    }

    // ---- promises 33 to 40 ----

    private static void one() {
        says("ONE of a COMMAND: whether all REPLICAS at which it is COMMITTED, or RUN, have the same SEQ and DEPS of it / "
                + "(true: at none); false: others");
        made(THREE, "one(0)=true propose(1)=1 propose(0)=1 ask(0,1)=0 known(1,0,2)=2 one(0)=true one(4)=false one(-1)=false "
                + "ask(0,2)=1 decide(0)=0 one(0)=true accept(0,2)=2 settle(0)=true one(0)=true tell(0,1)=true one(0)=true "
                + "down(0)=true one(0)=true");
        made(PAIR, TORN + "known(0,0,2)=1 known(2,0,2)=0 one(0)=false run(0)=1 one(0)=false run(2)=1 one(0)=false down(0)=true "
                + "one(0)=false one(1)=true");
        made(SIDE, SIDE_TORN + "one(2)=false one(0)=true");
    }

    private static void agree() {
        says("AGREE of two REPLICAS: whether all that CLASH and that both have RUN were RUN in one order by both (by "
                + "itself: true) / false: others");
        made(PAIR, QUARREL + "agree(0,1)=false agree(1,0)=false agree(0,0)=true agree(1,1)=true agree(0,2)=true "
                + "agree(2,2)=true tell(0,2)=true run(2)=1 agree(0,2)=true agree(1,2)=true tell(1,2)=true run(2)=1 agree(0,2)=true "
                + "agree(1,2)=false down(1)=true agree(1,2)=false agree(0,3)=false agree(3,0)=false agree(3,3)=false "
                + "agree(-1,-1)=false agree(MAX,MAX)=false");
        // Not both have RUN the first one, or the second one.
        made(PAIR, QUARREL + "tell(1,2)=true run(2)=1 agree(0,2)=true agree(2,0)=true agree(1,2)=true agree(2,1)=true");
        made(PAIR, QUARREL + "tell(0,2)=true run(2)=1 agree(0,2)=true agree(2,0)=true agree(1,2)=true agree(2,1)=true");
        made(PAIR.replace("keys 1", "keys 2").replace("b put key 0", "b put key 1"), QUARREL + "order(0,0)=0 order(1,0)=1 "
                + "agree(0,1)=true agree(1,0)=true");
    }

    private static void before() {
        says("BEFORE of a REPLICA and two COMMANDS: whether it has RUN the first one, and the second one not ahead of it / "
                + "false: others, the same");
        made(PAIR, QUARREL + "before(0,0,1)=true before(0,1,0)=false before(1,0,1)=false before(1,1,0)=true "
                + "before(2,0,1)=false before(2,1,0)=false tell(1,2)=true before(2,1,0)=false run(2)=1 before(2,1,0)=true "
                + "before(2,0,1)=false down(2)=true before(2,1,0)=true before(0,0,0)=false before(0,1,1)=false "
                + "before(0,0,2)=false before(0,2,0)=false before(3,0,1)=false before(-1,0,1)=false");
    }

    private static void bare() {
        says("BARE of a REPLICA: COMMANDS that are COMMITTED, or RUN, at any and not there (bits) / NONE: others");
        made(THREE, "bare(0)=0 propose(0)=1 ask(0,1)=1 bare(2)=0 decide(0)=1 bare(0)=0 bare(1)=1 bare(2)=1 run(0)=1 bare(0)=0 "
                + "bare(1)=1 down(0)=true bare(1)=1 up(0)=true tell(0,1)=true bare(1)=0 bare(2)=1 run(1)=1 bare(1)=0 "
                + "bare(3)=NONE bare(-1)=NONE");
        made(THREE, TRIANGLE + "bare(0)=6 bare(1)=5 bare(2)=3");
    }

    private static void level() {
        says("LEVEL of a LEADER: how many of its COMMANDS, from the first one on, all REPLICAS have RUN (0: it leads none) "
                + "/ NONE: others");
        String group = "replicas 3;keys 4;command a put key 0 value 1 at 1;command b put key 1 value 2 at 0;"
                + "command c put key 2 value 3 at 1;";
        made(group, "level(0)=0 level(1)=0 level(2)=0 level(3)=NONE level(-1)=NONE propose(2)=1 ask(2,0)=1 decide(2)=1 "
                + "tell(2,0)=true tell(2,2)=true run(0)=1 run(1)=1 run(2)=1 level(1)=0 propose(0)=1 ask(0,0)=1 decide(0)=1 "
                + "tell(0,0)=true tell(0,2)=true level(1)=0 run(0)=1 run(1)=1 level(1)=0 down(2)=true level(1)=0 up(2)=true "
                + "run(2)=1 level(1)=2 level(0)=0 level(2)=0 down(0)=true level(1)=2 clean()=2 level(1)=2");
    }

    private static void stuck() {
        says("STUCK: if fewer than MOST REPLICAS are up: COMMANDS with a STATUS of 1 or more at any of these, but not of 3 "
                + "or more at all of these (bits); else none");
        made(THREE, TWO + "stuck()=0 down(2)=true stuck()=0 down(1)=true stuck()=2 known(0,0,0)=3 known(0,1,0)=1 run(0)=1 "
                + "stuck()=2 down(0)=true stuck()=0 up(1)=true stuck()=1 known(1,0,0)=1 up(0)=true stuck()=0");
        made(THREE, "down(0)=true down(1)=true stuck()=0");
        made(THREE, "recover(0,2)=0 recover(1,0)=0 down(0)=true down(1)=true stuck()=1");
        made(FIVE, "propose(0)=1 ask(0,1)=1 ask(0,2)=1 ask(0,3)=1 decide(0)=1 tell(0,3)=true down(0)=true down(1)=true "
                + "down(4)=true stuck()=1 down(2)=true up(4)=true stuck()=1 down(4)=true stuck()=0");
        String at = "propose(0)=1 ask(0,1)=1 ask(0,2)=1 ask(0,3)=1 decide(0)=1 tell(0,1)=true ";
        made(FIVE, at + "down(2)=true down(3)=true stuck()=0 down(4)=true stuck()=0 run(0)=1 stuck()=0 up(2)=true down(1)=true "
                + "stuck()=1 up(4)=true stuck()=0 down(2)=true stuck()=1 known(4,0,0)=0 down(0)=true stuck()=0");
    }

    private static void risk() {
        says("RISK of a COMMAND that is COMMITTED, or RUN, at any / NONE: others, it is neither COMMITTED nor RUN at any");
        made(THREE, "risk(0)=NONE propose(0)=1 risk(0)=NONE ask(0,1)=1 risk(0)=NONE decide(0)=1 risk(0)=0 run(0)=1 risk(0)=0 "
                + "down(0)=true risk(0)=0 risk(1)=NONE risk(4)=NONE risk(-1)=NONE count(3)=6 count(8)=5");
        made(THREE, "recover(0,0)=0 risk(0)=NONE");
        says("for how many sets of REPLICAS, of 1 of 3 [...], if just these were down, a RECOVER by the first one that is "
                + "up and whose STATUS is less than 3 would have another SEQ or DEPS than the first of all (down, too) by "
                + "which it is COMMITTED, or RUN");
        // Without 0, 1 would take SEQ 0 of 2; without 1 there is none to RECOVER it; without 2, 1 takes SEQ 1 of 0.
        made(PAIR, TORN + "risk(0)=1 run(0)=1 run(2)=1 risk(0)=1 down(0)=true risk(0)=1 up(0)=true down(1)=true down(2)=true "
                + "risk(0)=1 up(1)=true tell(0,1)=true risk(0)=0");
        made(SIDE, SIDE_TORN + "risk(2)=1");
        // Without 0 none is left that would RECOVER it, though 1 and 2 have another SEQ.
        made(PAIR, TORN + "down(0)=true tell(0,1)=true known(0,0,2)=1 known(1,0,2)=0 known(2,0,2)=0 risk(0)=0");
        // COMMITTED at 2 alone with SEQ 0: without 2 the first of equal BALLOTS has SEQ 1.
        made(PAIR, "propose(0)=1 recover(0,0)=1 down(0)=true recover(0,2)=0 accept(0,1)=2 settle(0)=true risk(0)=0 "
                + "down(2)=true up(0)=true recover(0,1)=3 risk(0)=1");
    }

    private static void riskOfFive() {
        says("of 2 of 5");
        String ends = "propose(0)=1 recover(0,0)=1 accept(0,1)=2 down(0)=true down(1)=true recover(0,4)=0 accept(0,2)=2 "
                + "accept(0,3)=3 settle(0)=true risk(0)=0 up(0)=true up(1)=true down(4)=true ";
        // Then 0 has SEQ 1, 1, 2 and 3 have SEQ 0, all by BALLOT 3: without 4 and one of 1, 2, 3 the first is 0.
        // Told, 1 has it COMMITTED, too: then 0 is the first without 1 and 4 alone.
        made(FIVE, ends + "recover(0,1)=3 risk(0)=3 up(4)=true risk(0)=3 tell(0,1)=true risk(0)=1 tell(0,0)=true risk(0)=0");
        made(FIVE, "propose(0)=1 ask(0,1)=1 ask(0,2)=1 ask(0,3)=1 decide(0)=1 risk(0)=0");
        // b has SEQ 1 at 1, SEQ 0 at 2, 3, 4; 0 alone would RECOVER it, otherwise if 1 and one of 2, 3, 4 are lost.
        made(FIVE, "propose(1)=1 recover(1,1)=1 down(0)=true down(1)=true recover(1,4)=0 accept(1,2)=2 accept(1,3)=3 "
                + "settle(1)=true down(4)=true up(0)=true up(1)=true recover(1,2)=3 recover(1,1)=3 accept(1,2)=2 "
                + "accept(1,3)=3 settle(1)=true up(4)=true down(1)=true tell(1,2)=true tell(1,3)=true known(1,1,2)=1 "
                + "known(2,1,2)=0 known(3,1,2)=0 known(0,1,0)=0 risk(1)=3");
    }

    // ---- promises 41 to 46 ----

    private static void see() {
        says("SEEN: [...]; 8 at most / SEEN: true; false: others, the same, 8 there are");
        LeaderlessOrder x = made(PAIR, QUARREL + "see(0,0,true)=false see(1,1,false)=false see(0,2,true)=false "
                + "see(2,0,true)=false see(-1,0,true)=false see(0,-1,true)=false see(MAX,0,true)=false see(0,MIN,false)=false "
                + "count(7)=0");
        for (int i = 0; i < 8; i++) {
            Calls.due(x, "see(" + i % 2 + "," + (1 - i % 2) + "," + (i % 2 == 0) + ")=true count(7)=" + (i + 1));
        }
        Calls.due(x, "see(0,1,true)=false see(1,0,false)=false see(0,0,true)=false count(7)=8 who()=1 count(8)=14");
    }

    private static void who() {
        says("WHO: REPLICAS by which all SEEN is so (bits) / as all is when it is asked");
        made(PAIR, "who()=7 see(0,1,true)=true who()=0");
        made(PAIR, QUARREL + "who()=7 see(1,0,true)=true who()=2 tell(1,2)=true who()=2 run(2)=1 who()=6 undo()=true who()=2 "
                + "see(0,1,false)=true who()=2 see(0,1,true)=true who()=0");
        made(PAIR, QUARREL + "see(0,1,false)=true who()=6 see(1,0,false)=true who()=4 down(2)=true who()=4");
        made(FIVE, "see(0,1,false)=true who()=31");
    }

    private static void look() {
        says("LOOK: the two COMMANDS [...] by which the greater number of WHO by whom that is so, or not, is the least, if "
                + "that is less than all / NONE: none parts them");
        made(PAIR, "look()=NONE");
        made("replicas 3;keys 1;command a put key 0 value 0 at 0;", "propose(0)=1 ask(0,1)=1 decide(0)=1 run(0)=1 look()=NONE");
        made(PAIR, QUARREL + "look()=1 see(0,1,false)=true who()=6 look()=8 see(1,0,true)=true who()=2 look()=NONE "
                + "see(1,0,false)=true who()=0 look()=NONE");
        says("of equal ones the first by the first, then the second one");
        // d is RUN by 0: it is BEFORE a, BEFORE b and BEFORE c there.
        made(THREE, "propose(3)=1 ask(3,1)=1 decide(3)=1 run(0)=1 look()=24");
        made(THREE, "propose(1)=1 ask(1,0)=1 decide(1)=1 run(1)=1 look()=8");
        // Of five d is RUN by 0 and 1, by 1 behind a: d BEFORE a parts 1 from 4, d BEFORE b 2 from 3.
        String five = "propose(3)=1 ask(3,1)=1 ask(3,2)=1 ask(3,3)=1 decide(3)=1 run(0)=1 propose(0)=1 ask(0,1)=1 ask(0,2)=1 "
                + "ask(0,3)=1 decide(0)=1 ";
        made(FIVE, five + "tell(0,1)=true run(1)=1 tell(3,1)=true run(1)=1 look()=25");
        made(FIVE, five + "tell(3,1)=true run(1)=1 tell(0,2)=true run(2)=1 look()=24");
        says("LOOK, as 8 * the first + the second one");
        made(eight(), "recover(7,0)=0 accept(7,1)=2 accept(7,2)=3 settle(7)=true run(0)=1 look()=56");
    }

    private static int draws(LeaderlessOrder x, LeaderlessOrder y, int seed, int many) {
        long g = seed;
        int could = 0;
        for (int i = 0; i < many; i++) {
            int[] drawn = new int[3];
            int[] below = {9, y.count(2), y.count(0)};
            for (int k = 0; k < 3; k++) {
                g = (g * 1103515245 + 12345) % 2147483648L;
                drawn[k] = (int) (g / 65536 % below[k]);
            }
            String of = "(" + drawn[1] + ")";
            String both = "(" + drawn[1] + "," + drawn[2] + ")";
            String by = "(" + drawn[2] + ")";
            String[] calls = {"propose" + of, "ask" + both, "decide" + of, "accept" + both, "settle" + of, "tell" + both,
                "recover" + both, "run" + by, (y.replica(drawn[2], 0) == 1 ? "down" : "up") + by};
            String answer = Calls.answer(y, calls[drawn[0]]);
            could += answer.equals("-1") || answer.equals("false") ? 0 : 1;
        }
        int pairs = 0;
        for (int r = 0; r < y.count(0); r++) {
            for (int o = r + 1; o < y.count(0); o++) {
                pairs += y.agree(r, o) ? 0 : 1;
            }
        }
        Calls.due(x, "drives(" + seed + "," + many + ",0)=" + could + " drives(" + seed + "," + many + ",1)=" + y.count(5)
                + " drives(" + seed + "," + many + ",2)=" + pairs);
        return pairs;
    }

    private static void drives() {
        says("DRIVES by a SEED (0 to 9999) of so many (1 to 99), what 0, 1, 2: how many; NONE: others");
        LeaderlessOrder x = made(THREE, "drives(-1,1,0)=NONE drives(10000,1,0)=NONE drives(MIN,1,0)=NONE drives(MAX,1,0)=NONE "
                + "drives(0,0,0)=NONE drives(0,100,0)=NONE drives(0,-1,0)=NONE drives(0,MAX,0)=NONE drives(0,MIN,0)=NONE "
                + "drives(0,1,-1)=NONE drives(0,1,3)=NONE drives(0,1,MAX)=NONE drives(0,1,MIN)=NONE drives(0,1,0)=1 "
                + "drives(9999,99,2)=0");
        for (int seed : new int[] {0, 1, 2, 4999, 9998, 9999}) {
            for (int many : new int[] {1, 2, 50, 98, 99}) {
                draws(x, Check.made(THREE), seed, many);
                draws(Check.made(FIVE), Check.made(FIVE), seed, many);
                draws(Check.made(eight()), Check.made(eight()), seed, many);
            }
        }
        says("each, if there are REPLICAS and COMMANDS");
        made("replicas 3;keys 1;", "drives(1,99,0)=0 drives(1,99,1)=0 drives(1,99,2)=0 drives(1,100,0)=NONE");
        made("keys 1;", "drives(1,99,0)=0 drives(1,99,1)=0 drives(1,99,2)=0 drives(10000,9,0)=NONE");
    }

    private static void drivesFromNow() {
        says("from now on (all is as ahead then)");
        LeaderlessOrder x = made(PAIR, QUARREL + "see(0,1,true)=true mark(1,false)=true drives(0,1,2)=1");
        Check.due("work", Check.work(x, "clean;up 1;"), 0);
        Check.feed(x, "keys");
        String old = Calls.all(x);
        int most = 0;
        for (int seed = 0; seed < 40; seed++) {
            most = Math.max(most, draws(x, made(PAIR, QUARREL), seed, 60));
        }
        Check.due("some pairs do not AGREE", most, 2);
        Check.due("all is as ahead", Calls.all(x).equals(old), true);
        Calls.due(x, "count(8)=14 count(9)=4 undo()=true mark(1,true)=true");
    }

    private static void mark() {
        says("A MARK is laid (back: gone back to): true; false: none such, nothing is on it (back) / MARKS 0 to 3");
        LeaderlessOrder x = made(THREE, "mark(0,true)=false mark(1,true)=false mark(2,true)=false mark(3,true)=false "
                + "mark(4,false)=false mark(4,true)=false mark(-1,false)=false mark(-1,true)=false mark(MAX,false)=false "
                + "mark(MAX,true)=false mark(MIN,false)=false mark(MIN,true)=false");
        for (int m = 0; m < 3; m++) {
            Calls.due(x, "mark(" + m + ",false)=true down(" + m + ")=true");
        }
        Calls.due(x, "mark(3,true)=false count(8)=3 mark(3,false)=true count(3)=0 count(8)=3 mark(1,true)=true count(3)=6 "
                + "mark(0,true)=true count(3)=7 mark(3,true)=true count(3)=0 mark(2,true)=true count(3)=4 mark(2,true)=true "
                + "count(3)=4 down(2)=true mark(0,false)=true up(0)=true mark(0,true)=true count(3)=0");
        Calls.due(new LeaderlessOrder(), "mark(3,true)=false mark(3,false)=true mark(3,true)=true count(0)=0");
        says("(nothing can be undone when one is gone back to)");
        made(THREE, "down(0)=true mark(0,false)=true count(8)=1 down(1)=true count(8)=2 mark(1,true)=false count(8)=2 "
                + "mark(0,true)=true count(8)=0 undo()=false count(3)=6 up(0)=true count(8)=1 undo()=true count(3)=6 "
                + "undo()=false");
    }

    private static void markHolds() {
        says("MARKS 0 to 3 hold how it is, the WORK, what is SEEN");
        LeaderlessOrder x = made(PAIR, QUARREL);
        Check.due("work", Check.work(x, "up 0;clean;"), 0);
        Calls.due(x, "see(0,1,true)=true mark(2,false)=true");
        String old = Calls.all(x);
        Calls.due(x, "tell(1,2)=true run(2)=1 tell(0,2)=true run(2)=1 clean()=2 see(1,0,true)=true down(0)=true down(1)=true");
        Check.due("work", Check.work(x, "clean;run 0;run 1;"), 0);
        Check.feed(x, "keys 1;");
        Calls.due(x, "mark(0,false)=true");
        String later = Calls.all(x);
        Calls.due(x, "mark(2,true)=true count(6)=2 count(7)=1 count(3)=7 count(5)=4 count(9)=7");
        Check.due("all is as it was", Calls.all(x).equals(old), true);
        Calls.due(x, "see(1,0,false)=true see(1,0,false)=true up(0)=false down(2)=true mark(0,true)=true count(6)=3 count(7)=2");
        Check.due("all is as it was", Calls.all(x).equals(later), true);
        Calls.due(x, "mark(2,true)=true");
        Check.due("all is as it was", Calls.all(x).equals(old), true);
        // What a COMMAND has GOT is held, too.
        String a = "propose(0)=1 ask(0,1)=1 decide(0)=1 ";
        LeaderlessOrder y = made("replicas 3;keys 1;command a put key 0 value 5 at 0;command b get key 0 value 0 at 0;",
                "mark(0,false)=true " + a + "propose(1)=2 ask(1,1)=1 decide(1)=1 run(0)=2 got(0,1)=5 mark(1,false)=true "
                + "mark(0,true)=true got(0,1)=NONE propose(1)=1 ask(1,1)=1 decide(1)=1 run(0)=1 got(0,1)=0 mark(2,false)=true "
                + "mark(1,true)=true got(0,1)=5 mark(2,true)=true got(0,1)=0 order(0,0)=1");
        Calls.due(y, "mark(1,true)=true order(0,0)=0 order(0,1)=1 value(0,0)=5");
    }

    private static void count() {
        says("count: What 0: REPLICAS, 1: KEYS, 2: COMMANDS, 3: which REPLICAS are up, 4: which COMMANDS are CLEANED, as "
                + "bits, 5: how many are RUN, at all REPLICAS, together, 6: lines of the WORK, 7: SEEN, 8: what can be undone, "
                + "9: signs on the TAPE. NONE for another what");
        LeaderlessOrder x = made(PAIR, QUARREL + "tell(0,2)=true tell(1,2)=true run(2)=2 clean()=2 down(1)=true "
                + "see(0,1,true)=true");
        Check.due("work", Check.work(x, "clean;clean;clean;"), 0);
        Check.feed(x, "keys ");
        Calls.due(x, "count(0)=3 count(1)=1 count(2)=2 count(3)=5 count(4)=3 count(5)=6 count(6)=3 count(7)=1 count(8)=16 "
                + "count(9)=5 count(10)=NONE count(-1)=NONE count(MAX)=NONE count(MIN)=NONE");
    }

    private static void askingChangesNothing() {
        says("Nothing is promised beyond the answers and state changes described above");
        String[][] rows = {{PAIR, QUARREL}, {PAIR, TORN}, {SIDE, SIDE_TORN}, {THREE, TWO}, {THREE, TRIANGLE},
            {THREE, TRIANGLE + "tell(1,0)=true tell(2,0)=true down(1)=true "}, {FIVE, "propose(0)=1 down(1)=true "}};
        String[] questions = ("command(0,5) known(1,0,2) replica(0,3) order(0,0) value(0,0) got(0,1) clash(0,1) judged(0) "
                + "judged(1) judged(2) lone() heap(0) union(0,0) union(0,1) quick(0) quick(1) waits(0) waits(2) ready(0) "
                + "ready(1) ready(2) plan(0,0) plan(1,0) part(0,0) one(0) agree(0,1) before(0,0,1) bare(2) level(0) stuck() "
                + "finds(0,0) finds(0,1) finds(1,1) finds(1,2) risk(0) risk(1) who() look() drives(3,99,0) drives(4,99,1) "
                + "drives(5,99,2) count(8)").split(" ");
        String[] refused = ("propose(9) ask(0,9) decide(9) accept(9,0) settle(9) tell(0,9) down(9) up(9) recover(0,9) run(9) "
                + "see(0,0,true) mark(4,false) mark(3,true)").split(" ");
        for (String[] row : rows) {
            LeaderlessOrder x = made(row[0], row[1] + "see(0,1,true)=true mark(0,false)=true");
            Check.due("work", Check.work(x, "clean;run 0;up 1;"), 0);
            Check.feed(x, "keys");
            String old = Calls.all(x);
            int steps = x.count(8);
            for (String no : refused) {
                Check.due(no + " is refused", Calls.answer(x, no).matches("-1|false"), true);
                Check.due(no + " changes nothing", Calls.all(x).equals(old) && x.count(8) == steps, true);
            }
            for (String question : questions) {
                String first = Calls.answer(x, question);
                Check.due(question + " changes nothing", Calls.all(x).equals(old) && x.count(8) == steps, true);
                Check.due(question + " answers the same again", Calls.answer(x, question).equals(first), true);
            }
            Check.due("signs", x.count(9), 4);
        }
    }
}
