import java.util.NoSuchElementException;

/** Promise by promise: ordinary inputs, the edges that the document names, wrong inputs; worked out by hand. */
public final class PromiseTest {
    private static final int NONE = LeaderlessOrder.NONE;
    private static final int[] NO_INDEX = {-1, 8, 9, Integer.MIN_VALUE, Integer.MAX_VALUE};

    /** a, b, c CLASH with one another, d with none. */
    private static final String THREE = "replicas 3;keys 2;command a put key 0 value 5 at 0;"
            + "command b add key 0 value 3 at 1;command c get key 0 value 0 at 2;command d put key 1 value 9 at 0;";
    private static final String FIVE = THREE.replace("replicas 3", "replicas 5");
    /** Two that CLASH. */
    private static final String PAIR = "replicas 3;keys 1;command a put key 0 value 5 at 0;"
            + "command b put key 0 value 7 at 1;";
    /** Two that CLASH by the law alone: low 10, high 30, apart 3, same 0. */
    private static final String LAWFUL = "replicas 3;keys 4;command a get key 0 value 30 at 0;"
            + "command b get key 3 value 10 at 1;";

    private PromiseTest() { }

    public static void main(String[] args) {
        aNewObject();
        feed();
        group();
        groupFaults();
        lawFaults();
        law();
        groupBeginsAnew();
        work();
        command();
        known();
        replica();
        order();
        value();
        got();
        clash();
        propose();
        ask();
        decide();
        accept();
        settle();
        tell();
        downAndUp();
        recover();
        recoverFoundTwo();
        recoverFoundThree();
        run();
        runParts();
        clean();
        undo();
        judged();
        loneAndHeap();
        union();
        quick();
        waits();
        readyAndPlan();
        part();
        one();
        agree();
        before();
        bare();
        level();
        stuck();
        finds();
        risk();
        seeWhoLook();
        drives();
        mark();
        count();
        Check.end("PromiseTest");
    }

    private static void due(String call, long got, long want) {
        Check.due(call, got, want);
    }

    private static void due(String call, boolean got, boolean want) {
        Check.due(call, got, want);
    }

    private static void order(LeaderlessOrder x, int replica, String want) {
        String got = Check.order(x, replica);
        Check.due("order of " + replica + " " + got + ", due is " + want, got.equals(want), true);
    }

    private static boolean throwsAt(LeaderlessOrder x, int replica, int i) {
        try {
            x.order(replica, i);
            return false;
        } catch (NoSuchElementException e) {
            return true;
        }
    }

    private static void cell(LeaderlessOrder x, int replica, int command, int... want) {
        for (int what = 0; what < want.length; what++) {
            due("known(" + replica + ", " + command + ", " + what + ")", x.known(replica, command, what), want[what]);
        }
    }

    /** A text with a @ where its FAULT is. */
    private static void fault(int kind, String marked) {
        LeaderlessOrder x = new LeaderlessOrder();
        int want = kind + 16 * marked.indexOf('@');
        due("group of " + marked, Check.group(x, marked.replace("@", "")), want);
        due("count(0) behind a fault", x.count(0), 0);
        due("count(9) behind a fault", x.count(9), 0);
    }

    private static void workFault(int kind, String marked) {
        LeaderlessOrder x = Check.made(THREE);
        due("work clean", Check.work(x, "clean;clean;"), 0);
        int want = kind + 16 * marked.indexOf('@');
        due("work of " + marked, Check.work(x, marked.replace("@", "")), want);
        due("lines behind a fault", x.count(6), 2);
        due("count(9) behind a fault", x.count(9), 0);
    }

    /** a is COMMITTED at 0 at once, b at 1, behind a. */
    private static LeaderlessOrder twoCommitted() {
        LeaderlessOrder x = Check.made(THREE);
        due("propose(0)", x.propose(0), 1);
        due("ask(0, 1)", x.ask(0, 1), 1);
        due("decide(0)", x.decide(0), 1);
        due("propose(1)", x.propose(1), 2);
        due("ask(1, 0)", x.ask(1, 0), 1);
        due("decide(1)", x.decide(1), 1);
        return x;
    }

    /** b and c of THREE lean on one another, at 0. */
    private static LeaderlessOrder ringAtZero() {
        LeaderlessOrder x = Check.made(THREE);
        due("propose(1)", x.propose(1), 1);
        due("propose(2)", x.propose(2), 1);
        due("ask(1, 2)", x.ask(1, 2), 0);
        due("ask(2, 1)", x.ask(2, 1), 0);
        due("decide(1)", x.decide(1), 0);
        due("decide(2)", x.decide(2), 0);
        due("accept(1, 0)", x.accept(1, 0), 2);
        due("accept(2, 0)", x.accept(2, 0), 2);
        due("settle(1)", x.settle(1), true);
        due("settle(2)", x.settle(2), true);
        due("tell(1, 0)", x.tell(1, 0), true);
        due("tell(2, 0)", x.tell(2, 0), true);
        return x;
    }

    /** A COMMAND of PAIR that was EMPTY is COMMITTED at 2; 0 and 1 have other things of it, by one BALLOT. */
    private static LeaderlessOrder riskyPair() {
        LeaderlessOrder x = Check.made(PAIR);
        due("propose(0)", x.propose(0), 1);
        due("recover(0, 0)", x.recover(0, 0), 1);
        due("down(0)", x.down(0), true);
        due("recover(0, 2)", x.recover(0, 2), 0);
        due("accept(0, 1)", x.accept(0, 1), 2);
        due("settle(0)", x.settle(0), true);
        due("down(2)", x.down(2), true);
        due("up(0)", x.up(0), true);
        due("recover(0, 1)", x.recover(0, 1), 3);
        cell(x, 0, 0, 2, 3, 1, 0);
        cell(x, 1, 0, 2, 3, 0, 0);
        cell(x, 2, 0, 3, 2, 0, 0);
        return x;
    }

    /** 0 has RUN a, which is EMPTY, ahead of b, and 1 behind it. */
    private static LeaderlessOrder quarrel() {
        LeaderlessOrder x = Check.made(PAIR);
        due("propose(1)", x.propose(1), 1);
        due("ask(1, 2)", x.ask(1, 2), 1);
        due("decide(1)", x.decide(1), 1);
        due("run(1)", x.run(1), 1);
        due("down(0)", x.down(0), true);
        due("recover(0, 1)", x.recover(0, 1), 0);
        due("accept(0, 2)", x.accept(0, 2), 2);
        due("settle(0)", x.settle(0), true);
        due("run(1)", x.run(1), 1);
        due("up(0)", x.up(0), true);
        due("tell(0, 0)", x.tell(0, 0), true);
        due("run(0)", x.run(0), 1);
        due("tell(1, 0)", x.tell(1, 0), true);
        due("run(0)", x.run(0), 1);
        order(x, 0, "01");
        order(x, 1, "10");
        order(x, 2, "");
        return x;
    }

    // Promise 1
    private static void aNewObject() {
        LeaderlessOrder x = new LeaderlessOrder();
        for (int what = 0; what <= 9; what++) {
            due("count(" + what + ") of a new object", x.count(what), 0);
        }
        due("undo() of a new object", x.undo(), false);
        due("mark(0, true) of a new object", x.mark(0, true), false);
        due("command(0, 0) of a new object", x.command(0, 0), NONE);
        due("known(0, 0, 0) of a new object", x.known(0, 0, 0), NONE);
        due("replica(0, 0) of a new object", x.replica(0, 0), NONE);
        due("judged(0) of a new object", x.judged(0), NONE);
        due("judged(1) of a new object", x.judged(1), NONE);
        due("judged(2) of a new object", x.judged(2), 0);
        due("NONE", NONE, -1);
        LeaderlessOrder y = Check.made(PAIR);
        due("another object's group", x.count(0), 0);
        due("its own group", y.count(0), 3);
    }

    // Promise 2
    private static void feed() {
        LeaderlessOrder x = new LeaderlessOrder();
        due("feed of none", x.feed(0, 0, 0), 0);
        due("feed of 255s", x.feed(-1, -1, -1), 0);
        due("feed of 9, 10, 11, 31, 32, 126, 127, 128", x.feed(0x090A0B1F207E7F80L, 0, 0), 3);
        due("feed of min", x.feed(Long.MIN_VALUE, 0, Long.MIN_VALUE | 0x41), 4);
        due("work of what is no token", x.work(), 1 + 16 * 2);
        due("feed, a first", x.feed(0x6B65790000000000L, 0x73L, 0x32_3BL), 6);
        due("group of keys2;", x.group(), 0);
        due("count(1)", x.count(1), 2);
        Check.feed(x, "keys 3;");
        for (int i = 0; i < 41; i++) {
            due("feed of blanks", x.feed(0x2020202020202020L, 0x2020202020202020L, 0x2020202020202020L), 31 + 24 * i);
        }
        due("feed up to 999", x.feed(0x2020202020202020L, 0, 0), 999);
        due("feed beyond 1,000", x.feed(0x2078787878787878L, -1, 0), 1000);
        due("feed of a full tape", x.feed(0x7878787878787878L, 0, 0x78), 1000);
        due("group of a full tape", x.group(), 0);
        due("count(1)", x.count(1), 3);
        due("group of 1,000 tokens", Check.group(x, ";".repeat(1000)), 1);
        due("group that ends in a number", Check.group(x, " ".repeat(998) + "12345"), 1 + 16 * 998);
        due("group that ends in a word", Check.group(x, " ".repeat(999) + "keys"), 1 + 16 * 999);
        due("work that ends in a number", Check.work(x, "\n".repeat(994) + "run 12345"), 4 + 16 * 998);
        due("a law as long as can be", Check.group(x, "clashes 1" + "+1".repeat(495) + ";"), 0);
    }

    // Promise 3
    private static void group() {
        LeaderlessOrder x = new LeaderlessOrder();
        due("group of nothing", x.group(), 0);
        due("group of blanks", Check.group(x, " \n "), 0);
        due("group", Check.group(x, "keys0004;replicas\n5 ;command low wipe key 3value 0at 4;clashes low"
                + "<high;command abcdefgh add key 0 value 99 at 0;"), 0);
        due("count(0)", x.count(0), 5);
        due("count(1)", x.count(1), 4);
        due("count(2)", x.count(2), 2);
        due("count(3)", x.count(3), 31);
        due("command(0, 3)", x.command(0, 3), 4);
        due("command(1, 2)", x.command(1, 2), 99);
        due("group told anew", Check.group(x, "keys 1;"), 0);
        due("count(0) anew", x.count(0), 0);
        due("count(2) anew", x.count(2), 0);
        due("count(3) anew", x.count(3), 0);
        due("group of replicas alone", Check.group(x, "replicas 3;"), 0);
        due("count(3)", x.count(3), 7);
        due("drives without commands", x.drives(1, 9, 0), 0);
        LeaderlessOrder y = Check.made("replicas 3;keys 1;command az put key 0 value 1 at 2;"
                + "command za get key 0 value 2 at 1;");
        due("work by names", Check.work(y, "propose za;ask za 0;decide za;run 1;"), 0);
        due("judged(0): za is led by 1", y.judged(0), NONE);
        due("judged(2)", y.judged(2), 1);
    }

    private static void groupFaults() {
        fault(1, "replicas@");
        fault(1, "replicas  @");
        fault(1, "replicas 3@");
        fault(1, "replicas 3@,");
        fault(1, "replicas @keys;");
        fault(1, "replicas 3 @5;");
        fault(1, "@;");
        fault(1, "replicas 3;@;");
        fault(1, "@3;");
        fault(1, "@propose a;");
        fault(1, "@Keys 1;");
        fault(1, "@replicass 3;");
        fault(1, "keys @00001;");
        fault(1, "keys @-1;");
        fault(3, "replicas 3;@replicas 5;");
        fault(3, "keys 1;@keys");
        fault(3, "clashes 1;@clashes 1;");
        fault(4, "replicas @0;");
        fault(4, "replicas @2;");
        fault(4, "replicas @4;");
        fault(4, "replicas @6;");
        fault(4, "replicas @9999");
        fault(4, "keys @0;");
        fault(4, "keys @5;");
        fault(1, "command @");
        fault(1, "command @2");
        for (String word : ("replicas keys command key value at clashes propose ask decide accept settle tell down "
                + "up recover run clean put add get wipe not and or abcdefghi").split(" ")) {
            fault(1, "replicas 3;keys 1;command @" + word + " put key 0 value 0 at 0;");
        }
        String begun = "replicas 3;keys 2;command a put key 1 value 0 at 2;";
        fault(3, begun + "command @a add key 0 value 0 at 0;");
        fault(1, begun + "command b @low key 0 value 0 at 0;");
        fault(1, begun + "command b @key 0 value 0 at 0;");
        fault(1, begun + "command b get @keys 0 value 0 at 0;");
        fault(1, begun + "command b get key @value 0 at 0;");
        fault(4, begun + "command b get key @2 value 0 at 0;");
        fault(1, begun + "command b get key 0 @at 0;");
        fault(4, begun + "command b get key 0 value @100 at 0;");
        fault(1, begun + "command b get key 0 value 99 @;");
        fault(4, begun + "command b get key 0 value 99 at @3;");
        fault(1, begun + "command b get key 0 value 99 at 2 @command");
        fault(4, "replicas 3;command b get key @0 value 0 at 0;keys 1;");
        fault(4, "keys 1;command b get key 0 value 0 at @0;replicas 3;");
        StringBuilder many = new StringBuilder("replicas 3;keys 1;");
        for (char c = 'a'; c < 'i'; c++) {
            many.append("command ").append(c).append(" put key 0 value 0 at 0;");
        }
        LeaderlessOrder x = Check.made(many.toString());
        due("eight commands", x.count(2), 8);
        fault(5, many + "@command i put key 0 value 0 at 0;");
        fault(5, many + "@command command");
        fault(1, many + "@commands");
    }

    private static void lawFaults() {
        fault(1, "clashes @;");
        fault(1, "clashes@");
        fault(1, "clashes @keys;");
        fault(1, "clashes @a;");
        fault(1, "clashes @+1;");
        fault(1, "clashes @99999;");
        fault(1, "clashes 1+@;");
        fault(1, "clashes 1*@*1;");
        fault(1, "clashes 1<2@<3;");
        fault(1, "clashes 1=2@<3;");
        fault(1, "clashes 1 @2;");
        fault(1, "clashes low@(1);");
        fault(1, "clashes 1 @not 1;");
        fault(1, "clashes 1 and@;");
        fault(1, "clashes (1@;");
        fault(1, "clashes (@);");
        fault(1, "clashes 1@);");
        fault(1, "clashes (1<2@<3);");
        fault(1, "clashes not@;");
        fault(1, "clashes not @and 1;");
        fault(1, "clashes @notand 1;");
        fault(5, "clashes (((((@1)))));");
        fault(5, "clashes (((((@low)))));");
        fault(5, "clashes (((((@(");
        fault(5, "clashes (((((@not");
        fault(1, "clashes (((((@)");
        fault(1, "clashes (((((@a");
        fault(1, "clashes (((((@and");
        fault(1, "clashes (((((@");
        fault(5, "clashes not not not not not @1;");
        fault(5, "clashes not not not not not @not 1;");
        fault(5, "clashes 1+not(not(not @1));");
        fault(5, "clashes ((((1)+(1)+((@1)))));");
        Check.made("clashes ((((1))))+((((2))))and not not not not 1=9999;");
        Check.made("clashes not(not(1)) or(((not 1)));");
    }

    private static void law() {
        String[] so = {"low=10", "high=30", "apart=3", "not same", "2+3*2=8", "0 and 1 or 1", "(5 and 3)=1",
            "(7 or 0)=1", "(0 or 0)=0", "not 5=0", "not(5=0)", "1<2", "0-5<0", "0-1", "256*256*256*128<0",
            "9999*9999*9999+0=1674919423-1", "10-3-2=5", "low*3=high", "high-low*apart+1", "not 0*2=2", "same<1",
            "3=3 and 2<3", "1+1<1+2", "not not 7=1", "(1<2)+(1=1)=2", "(3 and 4)+(0 or 9)+not 0=3"};
        for (String e : so) {
            LeaderlessOrder x = Check.made(LAWFUL + "clashes " + e.replace("1674919423-1", wrapped()) + ";");
            due("clash(0, 1) by " + e, x.clash(0, 1), true);
            due("clash(1, 0) by " + e, x.clash(1, 0), true);
        }
        String[] not = {"0", "same", "1-1", "2*3-6", "2+3*2=10", "1 or 1 and 0", "5 and 3=1", "2<2", "3<2",
            "256*256*256*256", "low-10", "not(low and high)", "not 1 or same", "high<low", "0*5+0"};
        for (String e : not) {
            LeaderlessOrder x = Check.made("clashes " + e + ";" + LAWFUL);
            due("clash(0, 1) by " + e, x.clash(0, 1), false);
        }
        LeaderlessOrder x = Check.made(LAWFUL.replace("at 1", "at 0") + "clashes same=1;");
        due("clash(0, 1) by same", x.clash(0, 1), true);
    }

    /** 9999 cubed, wrapped, as products and sums of NUMBERS of the language. */
    private static String wrapped() {
        int number = 9999 * 9999 * 9999;
        int left = number < 0 ? -number : number;
        String sign = number < 0 ? "-" : "+";
        return "0" + sign + left / 10000 / 10000 + "*5000*5000*4" + sign + left / 10000 % 10000 + "*5000*2" + sign
                + left % 10000;
    }

    private static void groupBeginsAnew() {
        LeaderlessOrder z = Check.made(LAWFUL + "clashes 1;");
        due("clash(0, 1)", z.clash(0, 1), true);
        due("a faulty law", Check.group(z, LAWFUL + "clashes 1"), 1 + 16 * (LAWFUL.length() + 9));
        due("clash(0, 1) behind a fault", z.clash(0, 1), true);
        due("a group without a law", Check.group(z, LAWFUL), 0);
        due("clash(0, 1) without a law", z.clash(0, 1), false);
        due("a group with a law again", Check.group(z, "clashes 0 or high=30;" + LAWFUL), 0);
        due("clash(0, 1) by another law", z.clash(0, 1), true);
        LeaderlessOrder x = twoCommitted();
        x.run(0);
        x.see(0, 1, true);
        for (int i = 0; i < 4; i++) {
            x.mark(i, false);
        }
        x.down(2);
        due("work", Check.work(x, "clean;"), 0);
        due("a faulty group", Check.group(x, "keys"), 1 + 16 * 4);
        due("replicas behind a fault", x.count(0), 3);
        due("up behind a fault", x.count(3), 3);
        due("run behind a fault", x.count(5), 1);
        due("lines behind a fault", x.count(6), 1);
        due("seen behind a fault", x.count(7), 1);
        due("to be undone behind a fault", x.count(8), 8);
        due("a good group", Check.group(x, THREE), 0);
        int[] want = {3, 2, 4, 7, 0, 0, 0, 0, 0, 0};
        for (int what = 0; what < want.length; what++) {
            due("count(" + what + ") of a group told anew", x.count(what), want[what]);
        }
        for (int i = 0; i < 4; i++) {
            due("mark(" + i + ", true) anew", x.mark(i, true), false);
        }
        due("undo() anew", x.undo(), false);
        due("value(0, 0) anew", x.value(0, 0), 0);
        cell(x, 0, 0, 0, 0, 0, 0);
        due("answers anew", x.command(0, 5), 0);
        order(x, 0, "");
    }

    // Promise 4
    private static void work() {
        LeaderlessOrder x = Check.made(THREE);
        due("work of all lines", Check.work(x, "propose a;ask a 1;decide a;accept b 2;settle c;tell d 0;down 1;\n"
                + "up 1;recover b 002;run 0;clean;"), 0);
        due("lines", x.count(6), 11);
        due("nothing is done by it", x.count(8), 0);
        due("work of nothing", x.work(), 0);
        due("lines of nothing", x.count(6), 0);
        String forty = "clean;".repeat(40);
        due("work of 40 lines", Check.work(x, forty), 0);
        due("40 lines", x.count(6), 40);
        workFault(5, forty + "@run");
        workFault(5, forty + "@clean;");
        workFault(1, forty + "@rest;");
        workFault(1, forty + "@;");
        workFault(1, "@put;");
        workFault(1, "@a;");
        workFault(1, "@replicas 3;");
        workFault(1, "propose @;");
        workFault(1, "propose @propose;");
        workFault(1, "propose @put;");
        workFault(1, "propose @1;");
        workFault(1, "propose @abcdefghi;");
        workFault(2, "propose @e;");
        workFault(2, "propose @low;");
        workFault(1, "propose a @1;");
        workFault(1, "ask a @;");
        workFault(2, "ask @aa 1;");
        workFault(4, "ask a @3;");
        workFault(4, "accept a @9999;");
        workFault(1, "tell a @12345;");
        workFault(1, "recover a @b;");
        workFault(1, "decide a@");
        workFault(1, "settle a @0;");
        workFault(1, "down @a;");
        workFault(4, "down @3;");
        workFault(4, "up @4;");
        workFault(4, "run @5;");
        workFault(1, "run@;");
        workFault(1, "clean @0;");
        workFault(1, "clean;clean@");
        workFault(1, "clean;@/");
        LeaderlessOrder y = new LeaderlessOrder();
        due("down without replicas", Check.work(y, "down 0;"), 4 + 16 * 5);
        due("clean without a group", Check.work(y, "clean;"), 0);
        due("its lines", y.count(6), 1);
    }

    // Promise 5
    private static void command() {
        LeaderlessOrder x = Check.made("replicas 5;keys 4;command a put key 3 value 1 at 4;"
                + "command b add key 2 value 2 at 3;command c get key 1 value 3 at 2;"
                + "command d wipe key 0 value 4 at 1;");
        for (int c = 0; c < 4; c++) {
            int[] want = {c, 3 - c, c + 1, 4 - c, 4 - c, 0, 0, 0};
            for (int what = 0; what < want.length; what++) {
                due("command(" + c + ", " + what + ")", x.command(c, what), want[what]);
            }
            due("command(" + c + ", 8)", x.command(c, 8), NONE);
            due("command(" + c + ", -1)", x.command(c, -1), NONE);
        }
        due("command(4, 0)", x.command(4, 0), NONE);
        for (int i : NO_INDEX) {
            due("command(" + i + ", 0)", x.command(i, 0), NONE);
        }
        x.propose(0);
        x.ask(0, 1);
        x.ask(0, 3);
        due("ANSWERS", x.command(0, 5), 16 + 2 + 8);
        due("decide(0)", x.decide(0), 0);
        due("ACCEPTS of the LEADER", x.command(0, 6), 16);
        due("accept(0, 0)", x.accept(0, 0), 2);
        due("ACCEPTS", x.command(0, 6), 17);
        due("recover(0, 2)", x.recover(0, 2), 3);
        due("HOST", x.command(0, 4), 2);
        due("LEADER", x.command(0, 3), 4);
        due("ANSWERS recovered", x.command(0, 5), 0);
        due("ACCEPTS recovered", x.command(0, 6), 4);
    }

    // Promise 6
    private static void known() {
        LeaderlessOrder x = twoCommitted();
        cell(x, 0, 0, 3, 0, 1, 0);
        cell(x, 1, 0, 1, 0, 1, 0);
        cell(x, 2, 0, 0, 0, 0, 0);
        cell(x, 1, 1, 3, 0, 2, 1);
        cell(x, 0, 1, 1, 0, 2, 1);
        due("known(0, 0, 4)", x.known(0, 0, 4), NONE);
        due("known(0, 0, -1)", x.known(0, 0, -1), NONE);
        due("known(3, 0, 0)", x.known(3, 0, 0), NONE);
        due("known(0, 4, 0)", x.known(0, 4, 0), NONE);
        for (int i : NO_INDEX) {
            due("known(" + i + ", 0, 0)", x.known(i, 0, 0), NONE);
            due("known(0, " + i + ", 0)", x.known(0, i, 0), NONE);
        }
    }

    // Promise 7
    private static void replica() {
        LeaderlessOrder x = twoCommitted();
        due("COMMITTED at 0", x.replica(0, 2), 1);
        due("COMMITTED at 1", x.replica(1, 2), 2);
        due("run(0)", x.run(0), 1);
        int[] want = {1, 1, 0, 1};
        for (int what = 0; what < want.length; what++) {
            due("replica(0, " + what + ")", x.replica(0, what), want[what]);
        }
        x.down(0);
        due("replica(0, 0) down", x.replica(0, 0), 0);
        due("replica(0, 3) down", x.replica(0, 3), 1);
        due("replica(0, 4)", x.replica(0, 4), NONE);
        due("replica(0, -1)", x.replica(0, -1), NONE);
        due("replica(3, 0)", x.replica(3, 0), NONE);
        for (int i : NO_INDEX) {
            due("replica(" + i + ", 0)", x.replica(i, 0), NONE);
        }
    }

    // Promise 8
    private static void order() {
        LeaderlessOrder x = twoCommitted();
        x.tell(1, 0);
        due("throws, nothing is run", throwsAt(x, 0, 0), true);
        due("run(0)", x.run(0), 2);
        due("order(0, 0)", x.order(0, 0), 0);
        due("order(0, 1)", x.order(0, 1), 1);
        due("throws behind the last", throwsAt(x, 0, 2), true);
        due("throws at another replica", throwsAt(x, 1, 0), true);
        due("throws at no replica", throwsAt(x, 3, 0), true);
        for (int i : NO_INDEX) {
            due("throws at order(0, " + i + ")", throwsAt(x, 0, i), true);
            due("throws at order(" + i + ", 0)", throwsAt(x, i, 0), true);
        }
    }

    // Promise 9
    private static void value() {
        LeaderlessOrder x = twoCommitted();
        x.tell(1, 0);
        due("value(0, 0) at first", x.value(0, 0), 0);
        x.run(0);
        due("value(0, 0)", x.value(0, 0), 8);
        due("value(0, 1)", x.value(0, 1), 0);
        due("value(1, 0)", x.value(1, 0), 0);
        due("value(0, 2)", x.value(0, 2), NONE);
        due("value(3, 0)", x.value(3, 0), NONE);
        for (int i : NO_INDEX) {
            due("value(0, " + i + ")", x.value(0, i), NONE);
            due("value(" + i + ", 0)", x.value(i, 0), NONE);
        }
    }

    private static void commitAtOnce(LeaderlessOrder x, int command) {
        int leader = x.command(command, 3);
        int other = leader == 0 ? 1 : 0;
        due("propose(" + command + ") can be", x.propose(command) > 0, true);
        due("ask(" + command + ", " + other + ")", x.ask(command, other), 1);
        due("decide(" + command + ")", x.decide(command), 1);
    }

    // Promise 10
    private static void got() {
        LeaderlessOrder x = Check.made("replicas 3;keys 2;command a put key 1 value 42 at 0;"
                + "command b get key 1 value 7 at 0;command c get key 0 value 7 at 0;");
        commitAtOnce(x, 0);
        commitAtOnce(x, 1);
        due("got(0, 1) not RUN", x.got(0, 1), NONE);
        due("run(0)", x.run(0), 2);
        due("got(0, 1)", x.got(0, 1), 42);
        due("got(1, 1) not RUN there", x.got(1, 1), NONE);
        due("got(0, 0) no get", x.got(0, 0), NONE);
        x.down(0);
        due("recover(2, 1)", x.recover(2, 1), 0);
        due("accept(2, 2)", x.accept(2, 2), 2);
        due("settle(2)", x.settle(2), true);
        due("run(1)", x.run(1), 1);
        due("got(1, 2) EMPTY", x.got(1, 2), NONE);
        x.up(0);
        due("got(0, 1) stays", x.got(0, 1), 42);
        commitAtOnceAfterAll(x);
        due("got(3, 1)", x.got(3, 1), NONE);
        due("got(0, 3)", x.got(0, 3), NONE);
        for (int i : NO_INDEX) {
            due("got(0, " + i + ")", x.got(0, i), NONE);
            due("got(" + i + ", 1)", x.got(i, 1), NONE);
        }
    }

    /** 0 runs what another one made EMPTY: got stays NONE there, too, though 0 was told it as a get. */
    private static void commitAtOnceAfterAll(LeaderlessOrder x) {
        due("propose(2) at the LEADER that missed it", x.propose(2), 1);
        due("tell(2, 0)", x.tell(2, 0), true);
        due("run(0)", x.run(0), 1);
        due("got(0, 2) EMPTY", x.got(0, 2), NONE);
        LeaderlessOrder y = Check.made("replicas 3;keys 1;command a get key 0 value 7 at 0;");
        commitAtOnce(y, 0);
        y.run(0);
        due("got(0, 0) of a key that is 0", y.got(0, 0), 0);
    }

    // Promise 11
    private static void clash() {
        LeaderlessOrder x = Check.made("replicas 3;keys 2;command pa put key 0 value 1 at 0;"
                + "command pb put key 0 value 1 at 0;command aa add key 0 value 1 at 0;"
                + "command ab add key 0 value 1 at 0;command ga get key 0 value 1 at 0;"
                + "command gb get key 0 value 1 at 0;command w wipe key 1 value 1 at 0;"
                + "command o put key 1 value 1 at 0;");
        String[] rows = {"01111110", "10111110", "11001110", "11001110", "11110010", "11110010", "11111101",
            "00000010"};
        for (int c = 0; c < 8; c++) {
            for (int d = 0; d < 8; d++) {
                due("clash(" + c + ", " + d + ")", x.clash(c, d), rows[c].charAt(d) == '1');
            }
        }
        for (int i : NO_INDEX) {
            due("clash(6, " + i + ")", x.clash(6, i), false);
            due("clash(" + i + ", 6)", x.clash(i, 6), false);
        }
        LeaderlessOrder y = Check.made(PAIR + "clashes 1;");
        due("clash(0, 0)", y.clash(0, 0), false);
        due("clash(0, 2)", y.clash(0, 2), false);
    }

    // Promise 12
    private static void propose() {
        LeaderlessOrder x = Check.made(THREE);
        due("propose(0)", x.propose(0), 1);
        cell(x, 0, 0, 1, 0, 1, 0);
        due("ANSWERS", x.command(0, 5), 1);
        due("propose(0) again", x.propose(0), NONE);
        due("propose(3) clashes with none", x.propose(3), 1);
        due("ask(0, 1)", x.ask(0, 1), 1);
        due("propose(1) behind a", x.propose(1), 2);
        cell(x, 1, 1, 1, 0, 2, 1);
        due("ask(1, 2)", x.ask(1, 2), 1);
        due("propose(2) behind b, not a, there", x.propose(2), 3);
        cell(x, 2, 2, 1, 0, 3, 2);
        due("steps to be undone", x.count(8), 6);
        due("propose(4)", x.propose(4), NONE);
        for (int i : NO_INDEX) {
            due("propose(" + i + ")", x.propose(i), NONE);
        }
        LeaderlessOrder y = Check.made(THREE);
        y.down(0);
        due("propose(0) at one that is down", y.propose(0), NONE);
        y.up(0);
        due("recover(0, 1)", y.recover(0, 1), 0);
        due("propose(0) with a BALLOT", y.propose(0), NONE);
        cell(y, 0, 0, 0, 1, 0, 0);
    }

    // Promise 13
    private static void ask() {
        LeaderlessOrder x = Check.made(THREE);
        due("ask(0, 1) ahead of propose", x.ask(0, 1), NONE);
        x.propose(0);
        due("ask(0, 0) of the LEADER", x.ask(0, 0), NONE);
        due("ask(0, 1)", x.ask(0, 1), 1);
        due("ask(0, 1) again", x.ask(0, 1), NONE);
        due("propose(2)", x.propose(2), 1);
        due("ask(0, 2) that met c", x.ask(0, 2), 0);
        cell(x, 2, 0, 1, 0, 2, 4);
        due("ANSWERS", x.command(0, 5), 7);
        due("ask(2, 0): SEQ 3, behind a's SEQ 1 at 0", x.ask(2, 0), 0);
        cell(x, 0, 2, 1, 0, 2, 1);
        due("ask(0, 3)", x.ask(0, 3), NONE);
        due("ask(4, 1)", x.ask(4, 1), NONE);
        for (int i : NO_INDEX) {
            due("ask(2, " + i + ")", x.ask(2, i), NONE);
            due("ask(" + i + ", 1)", x.ask(i, 1), NONE);
        }
        x.down(1);
        due("ask(2, 1) of one that is down", x.ask(2, 1), NONE);
        x.up(1);
        x.down(2);
        due("ask(2, 1) by one that is down", x.ask(2, 1), NONE);
        x.up(2);
        due("decide(2)", x.decide(2), 0);
        due("ask(2, 1) when it is ACCEPTED", x.ask(2, 1), NONE);
        LeaderlessOrder y = Check.made(THREE);
        y.down(0);
        due("recover(0, 1)", y.recover(0, 1), 0);
        y.up(0);
        due("propose(0)", y.propose(0), 1);
        due("ask(0, 2) that has a BALLOT", y.ask(0, 2), NONE);
        cell(y, 2, 0, 0, 1, 0, 0);
        LeaderlessOrder z = Check.made(THREE);
        z.propose(0);
        z.recover(0, 1);
        due("ask(0, 2) when the LEADER has a BALLOT", z.ask(0, 2), NONE);
    }

    // Promise 14
    private static void decide() {
        LeaderlessOrder x = Check.made(FIVE);
        due("decide(0) ahead of propose", x.decide(0), NONE);
        x.propose(0);
        x.ask(0, 1);
        due("decide(0) with 2 of 5", x.decide(0), NONE);
        x.ask(0, 2);
        x.ask(0, 3);
        x.down(0);
        due("decide(0), the LEADER is down", x.decide(0), NONE);
        x.up(0);
        due("decide(0) with 4 alike", x.decide(0), 1);
        cell(x, 0, 0, 3, 0, 1, 0);
        due("ACCEPTS", x.command(0, 6), 0);
        due("decide(0) again", x.decide(0), NONE);
        LeaderlessOrder y = Check.made(FIVE);
        y.propose(0);
        y.ask(0, 1);
        y.ask(0, 2);
        due("decide(0) with 3 of 5, alike", y.decide(0), 0);
        cell(y, 0, 0, 2, 0, 1, 0);
        due("ACCEPTS", y.command(0, 6), 1);
        due("decide(0) again", y.decide(0), NONE);
        LeaderlessOrder z = Check.made(FIVE);
        z.propose(1);
        z.propose(0);
        for (int r = 1; r < 5; r++) {
            due("ask(0, " + r + ")", z.ask(0, r), r == 1 ? 0 : 1);
        }
        due("decide(0) with 5, one not alike", z.decide(0), 0);
        cell(z, 0, 0, 2, 0, 2, 2);
        for (int i : NO_INDEX) {
            due("decide(" + i + ")", z.decide(i), NONE);
        }
        due("decide(4)", z.decide(4), NONE);
    }

    // Promise 15
    private static void accept() {
        LeaderlessOrder x = Check.made(FIVE);
        x.propose(1);
        x.propose(0);
        x.ask(0, 1);
        x.ask(0, 2);
        due("accept(0, 3) ahead of decide", x.accept(0, 3), NONE);
        due("decide(0)", x.decide(0), 0);
        due("accept(0, 0) of the HOST", x.accept(0, 0), NONE);
        due("accept(0, 4)", x.accept(0, 4), 2);
        cell(x, 4, 0, 2, 0, 2, 2);
        due("accept(0, 4) again", x.accept(0, 4), NONE);
        due("accept(0, 2) that was ASKED", x.accept(0, 2), 3);
        cell(x, 2, 0, 2, 0, 2, 2);
        x.down(1);
        due("accept(0, 1) of one that is down", x.accept(0, 1), NONE);
        x.up(1);
        x.down(0);
        due("accept(0, 1), the HOST is down", x.accept(0, 1), NONE);
        due("recover(0, 3) without the LEADER", x.recover(0, 3), 3);
        x.up(0);
        due("accept(0, 0) by a HOST with a BALLOT", x.accept(0, 0), 2);
        cell(x, 0, 0, 2, 1, 2, 2);
        due("accept(0, 1)", x.accept(0, 1), 3);
        due("settle(0)", x.settle(0), true);
        due("accept(0, 2), it is COMMITTED at the HOST", x.accept(0, 2), NONE);
        due("accept(0, 5)", x.accept(0, 5), NONE);
        due("accept(4, 0)", x.accept(4, 0), NONE);
        for (int i : NO_INDEX) {
            due("accept(0, " + i + ")", x.accept(0, i), NONE);
            due("accept(" + i + ", 0)", x.accept(i, 0), NONE);
        }
        acceptOfCommitted();
    }

    /** One that has it COMMITTED does not ACCEPT it. */
    private static void acceptOfCommitted() {
        LeaderlessOrder y = riskyPair();
        due("up(2)", y.up(2), true);
        due("accept(0, 2) that has it COMMITTED", y.accept(0, 2), NONE);
        cell(y, 2, 0, 3, 2, 0, 0);
        due("accept(0, 0)", y.accept(0, 0), 2);
        cell(y, 0, 0, 2, 3, 0, 0);
    }

    // Promise 16
    private static void settle() {
        LeaderlessOrder x = Check.made(FIVE);
        x.propose(0);
        x.ask(0, 1);
        x.ask(0, 2);
        due("settle(0) when it is ASKED", x.settle(0), false);
        x.decide(0);
        x.accept(0, 1);
        due("settle(0) with 2 of 5", x.settle(0), false);
        x.accept(0, 3);
        x.down(0);
        due("settle(0), the HOST is down", x.settle(0), false);
        x.up(0);
        due("settle(0)", x.settle(0), true);
        cell(x, 0, 0, 3, 0, 1, 0);
        cell(x, 1, 0, 2, 0, 1, 0);
        due("ACCEPTS stay", x.command(0, 6), 11);
        due("settle(0) again", x.settle(0), false);
        due("settle(4)", x.settle(4), false);
        for (int i : NO_INDEX) {
            due("settle(" + i + ")", x.settle(i), false);
        }
    }

    // Promise 17
    private static void tell() {
        LeaderlessOrder x = twoCommitted();
        due("tell(2, 0), COMMITTED nowhere", x.tell(2, 0), false);
        due("tell(0, 0) that knows", x.tell(0, 0), false);
        x.down(2);
        due("tell(0, 2) that is down", x.tell(0, 2), false);
        x.up(2);
        x.down(0);
        due("tell(0, 2), those that know are down", x.tell(0, 2), false);
        x.up(0);
        due("tell(1, 2)", x.tell(1, 2), true);
        cell(x, 2, 1, 3, 0, 2, 1);
        due("tell(0, 2)", x.tell(0, 2), true);
        due("run(2)", x.run(2), 2);
        due("tell(0, 2) that has it RUN", x.tell(0, 2), false);
        x.down(0);
        due("tell(0, 1) by one that has it RUN", x.tell(0, 1), true);
        due("tell(0, 3)", x.tell(0, 3), false);
        due("tell(4, 0)", x.tell(4, 0), false);
        for (int i : NO_INDEX) {
            due("tell(0, " + i + ")", x.tell(0, i), false);
            due("tell(" + i + ", 0)", x.tell(i, 0), false);
        }
        LeaderlessOrder y = riskyPair();
        due("recover(0, 0)", y.recover(0, 0), 3);
        due("accept(0, 1)", y.accept(0, 1), 2);
        due("settle(0)", y.settle(0), true);
        y.up(2);
        due("tell(0, 1) by the first one", y.tell(0, 1), true);
        cell(y, 1, 0, 3, 4, 1, 0);
    }

    // Promises 18 and 19
    private static void downAndUp() {
        LeaderlessOrder x = Check.made(THREE);
        due("up(1) that is up", x.up(1), false);
        due("down(1)", x.down(1), true);
        due("down(1) again", x.down(1), false);
        due("count(3)", x.count(3), 5);
        due("steps to be undone", x.count(8), 1);
        due("down(0)", x.down(0), true);
        due("down(2)", x.down(2), true);
        due("count(3), none", x.count(3), 0);
        due("up(2)", x.up(2), true);
        due("up(2) again", x.up(2), false);
        due("count(3)", x.count(3), 4);
        due("down(3)", x.down(3), false);
        due("up(3)", x.up(3), false);
        for (int i : NO_INDEX) {
            due("down(" + i + ")", x.down(i), false);
            due("up(" + i + ")", x.up(i), false);
        }
    }

    // Promise 20
    private static void recover() {
        LeaderlessOrder x = Check.made(THREE);
        x.down(0);
        due("recover(0, 0) by one that is down", x.recover(0, 0), NONE);
        due("recover(0, 1) of what none knows", x.recover(0, 1), 0);
        cell(x, 1, 0, 2, 1, 0, 0);
        cell(x, 2, 0, 0, 1, 0, 0);
        cell(x, 0, 0, 0, 0, 0, 0);
        due("HOST", x.command(0, 4), 1);
        due("ACCEPTS", x.command(0, 6), 2);
        x.down(2);
        due("recover(0, 1) with too few", x.recover(0, 1), NONE);
        x.up(2);
        due("accept(0, 2)", x.accept(0, 2), 2);
        due("settle(0)", x.settle(0), true);
        due("recover(0, 1), it is COMMITTED", x.recover(0, 1), NONE);
        due("recover(0, 2), COMMITTED at 1", x.recover(0, 2), 4);
        cell(x, 2, 0, 3, 2, 0, 0);
        cell(x, 1, 0, 3, 2, 0, 0);
        due("HOST", x.command(0, 4), 2);
        due("ACCEPTS, none", x.command(0, 6), 0);
        due("run(1)", x.run(1), 1);
        due("value(1, 0), EMPTY", x.value(1, 0), 0);
        order(x, 1, "0");
        x.up(0);
        due("recover(0, 0) of what is RUN", x.recover(0, 0), 4);
        cell(x, 0, 0, 3, 3, 0, 0);
        cell(x, 1, 0, 4, 3, 0, 0);
        due("recover(0, 3)", x.recover(0, 3), NONE);
        due("recover(4, 0)", x.recover(4, 0), NONE);
        for (int i : NO_INDEX) {
            due("recover(1, " + i + ")", x.recover(1, i), NONE);
            due("recover(" + i + ", 0)", x.recover(i, 0), NONE);
        }
        // 1: the LEADER and one more have it ASKED, another one MEETS b, one that is down MEETS d.
        LeaderlessOrder y = Check.made(FIVE + "clashes 1;");
        y.propose(1);
        due("propose(3)", y.propose(3), 1);
        due("ask(3, 4)", y.ask(3, 4), 1);
        due("propose(0)", y.propose(0), 2);
        due("ask(0, 2)", y.ask(0, 2), 1);
        y.down(4);
        due("recover(0, 3)", y.recover(0, 3), 1);
        cell(y, 3, 0, 2, 1, 2, 8 + 2);
        cell(y, 4, 0, 0, 0, 0, 0);
        cell(y, 2, 0, 1, 1, 2, 8);
        due("ANSWERS", y.command(0, 5), 0);
        due("decide(0), it has a BALLOT", y.decide(0), NONE);
        // By what it is BEHIND alone.
        LeaderlessOrder z = Check.made(FIVE);
        z.propose(0);
        z.propose(1);
        due("recover(0, 3)", z.recover(0, 3), 1);
        cell(z, 3, 0, 2, 1, 2, 2);
    }

    private static void recoverFoundTwo() {
        LeaderlessOrder x = Check.made(FIVE);
        x.propose(1);
        x.propose(0);
        x.ask(0, 2);
        due("finds(0, 4) with one beside the LEADER", x.finds(0, 4), 1);
        x.ask(0, 3);
        due("recover(0, 4) with two alike", x.recover(0, 4), 2);
        cell(x, 4, 0, 2, 1, 1, 0);
        LeaderlessOrder y = Check.made(FIVE);
        y.propose(1);
        y.ask(1, 2);
        y.propose(0);
        due("ask(0, 1)", y.ask(0, 1), 0);
        due("ask(0, 2)", y.ask(0, 2), 0);
        due("ask(0, 3)", y.ask(0, 3), 1);
        due("ask(0, 4)", y.ask(0, 4), 1);
        due("recover(0, 4) with two and two", y.recover(0, 4), 2);
        cell(y, 4, 0, 2, 1, 2, 2);
        LeaderlessOrder z = Check.made(FIVE.replace("value 3 at 1", "value 3 at 3"));
        z.propose(1);
        z.ask(1, 4);
        z.propose(0);
        for (int r = 1; r < 5; r++) {
            due("ask(0, " + r + ")", z.ask(0, r), r < 3 ? 1 : 0);
        }
        due("recover(0, 4) with two and two", z.recover(0, 4), 2);
        cell(z, 4, 0, 2, 1, 1, 0);
        LeaderlessOrder u = Check.made(FIVE);
        u.propose(1);
        u.propose(0);
        u.ask(0, 1);
        u.ask(0, 2);
        due("recover(0, 4) with two that differ", u.recover(0, 4), 1);
        LeaderlessOrder v = Check.made(THREE);
        v.propose(0);
        due("finds(0, 2), the LEADER alone", v.finds(0, 2), 1);
        v.ask(0, 1);
        due("recover(0, 2) with one of three", v.recover(0, 2), 2);
        cell(v, 2, 0, 2, 1, 1, 0);
    }

    private static void recoverFoundThree() {
        LeaderlessOrder x = riskyPair();
        due("recover(0, 0), BALLOTS are equal: the first", x.recover(0, 0), 3);
        cell(x, 0, 0, 2, 4, 1, 0);
        cell(x, 1, 0, 2, 4, 0, 0);
        due("HOST", x.command(0, 4), 0);
        LeaderlessOrder y = Check.made(FIVE);
        y.propose(0);
        y.ask(0, 1);
        y.ask(0, 2);
        y.decide(0);
        due("recover(0, 4), ACCEPTED goes ahead of two ASKED alike", y.recover(0, 4), 3);
        cell(y, 4, 0, 2, 1, 1, 0);
        cell(y, 0, 0, 2, 1, 1, 0);
        cell(y, 1, 0, 1, 1, 1, 0);
        // Of those COMMITTED the first that is up.
        LeaderlessOrder z = riskyPair();
        z.recover(0, 0);
        z.accept(0, 1);
        z.settle(0);
        z.up(2);
        z.down(0);
        due("recover(0, 1) by 2", z.recover(0, 1), 4);
        cell(z, 1, 0, 3, 5, 0, 0);
    }

    // Promise 21
    private static void run() {
        LeaderlessOrder x = twoCommitted();
        due("run(2), nothing", x.run(2), 0);
        due("run(1), b waits for a", x.run(1), 0);
        due("steps to be undone", x.count(8), 8);
        due("run(0)", x.run(0), 1);
        due("run(0) again", x.run(0), 0);
        due("tell(0, 1)", x.tell(0, 1), true);
        due("run(1)", x.run(1), 2);
        order(x, 1, "01");
        cell(x, 1, 1, 4, 0, 2, 1);
        x.down(0);
        due("run(0) that is down", x.run(0), NONE);
        due("run(3)", x.run(3), NONE);
        for (int i : NO_INDEX) {
            due("run(" + i + ")", x.run(i), NONE);
        }
        LeaderlessOrder y = Check.made("replicas 3;keys 2;command a put key 0 value 99 at 0;"
                + "command b add key 0 value 95 at 0;command c put key 1 value 7 at 0;"
                + "command d wipe key 1 value 0 at 0;command e add key 1 value 4 at 0;");
        commitAtOnce(y, 0);
        commitAtOnce(y, 1);
        commitAtOnce(y, 2);
        due("run(0)", y.run(0), 3);
        due("value(0, 0)", y.value(0, 0), 194);
        due("value(0, 1)", y.value(0, 1), 7);
        commitAtOnce(y, 3);
        commitAtOnce(y, 4);
        due("run(0)", y.run(0), 2);
        due("value(0, 0) wiped", y.value(0, 0), 0);
        due("value(0, 1) wiped, and more", y.value(0, 1), 4);
        due("value(1, 0)", y.value(1, 0), 0);
        StringBuilder adds = new StringBuilder("replicas 3;keys 1;");
        for (int i = 0; i < 8; i++) {
            adds.append("command c").append((char) ('a' + i)).append(" add key 0 value 99 at 0;");
        }
        LeaderlessOrder z = Check.made(adds.toString());
        for (int c = 0; c < 8; c++) {
            commitAtOnce(z, c);
        }
        due("run(0)", z.run(0), 8);
        due("value(0, 0)", z.value(0, 0), 792);
    }

    private static void runParts() {
        LeaderlessOrder x = ringAtZero();
        cell(x, 0, 1, 3, 0, 2, 4);
        cell(x, 0, 2, 3, 0, 2, 2);
        due("run(0) of a ring", x.run(0), 2);
        order(x, 0, "12");
        due("got(0, 2)", x.got(0, 2), 3);
        // A ring whose SEQS go against the numbers.
        LeaderlessOrder y = Check.made("replicas 3;keys 1;command a put key 0 value 1 at 0;"
                + "command b put key 0 value 2 at 1;command c put key 0 value 3 at 2;");
        y.propose(1);
        y.ask(1, 0);
        due("propose(0)", y.propose(0), 2);
        due("ask(0, 2)", y.ask(0, 2), 1);
        due("propose(2)", y.propose(2), 3);
        due("ask(2, 1)", y.ask(2, 1), 0);
        due("decide(0)", y.decide(0), 1);
        due("decide(1)", y.decide(1), 1);
        due("decide(2)", y.decide(2), 0);
        due("accept(2, 0)", y.accept(2, 0), 2);
        due("settle(2)", y.settle(2), true);
        due("tell(2, 0)", y.tell(2, 0), true);
        due("waits(0)", y.waits(0), 2);
        due("run(0), all wait", y.run(0), 0);
        due("tell(1, 0)", y.tell(1, 0), true);
        due("run(0)", y.run(0), 3);
        order(y, 0, "102");
        due("value(0, 0)", y.value(0, 0), 3);
        // Parts alone by the least SEQ, then the least number.
        LeaderlessOrder z = Check.made("replicas 3;keys 4;command a put key 0 value 1 at 0;"
                + "command b put key 0 value 2 at 0;command c put key 1 value 3 at 0;command d put key 2 value 3 at 0;");
        commitAtOnce(z, 3);
        commitAtOnce(z, 2);
        commitAtOnce(z, 1);
        commitAtOnce(z, 0);
        cell(z, 0, 0, 3, 0, 2, 2);
        due("run(0)", z.run(0), 4);
        order(z, 0, "1230");
    }

    private static void runEverywhere(LeaderlessOrder x, int command) {
        for (int r = 0; r < 3; r++) {
            x.tell(command, r);
            x.run(r);
        }
    }

    // Promise 22
    private static void clean() {
        LeaderlessOrder x = Check.made("replicas 3;keys 2;command a put key 0 value 1 at 0;"
                + "command b put key 0 value 2 at 1;command c put key 0 value 3 at 0;command d put key 0 value 4 at 2;");
        due("clean(), nothing", x.clean(), 0);
        commitAtOnce(x, 2);
        runEverywhere(x, 2);
        due("clean(): c is behind a", x.clean(), 0);
        commitAtOnce(x, 1);
        cell(x, 1, 1, 3, 0, 2, 4);
        x.tell(1, 0);
        x.run(0);
        x.run(1);
        due("clean(), one has not RUN b", x.clean(), 0);
        x.tell(1, 2);
        x.run(2);
        x.down(2);
        due("clean(), one is down", x.clean(), 1);
        due("count(4)", x.count(4), 2);
        due("command(1, 7)", x.command(1, 7), 1);
        due("command(2, 7)", x.command(2, 7), 0);
        x.up(2);
        due("propose(0) behind c, not b, which is CLEANED", x.propose(0), 2);
        cell(x, 0, 0, 1, 0, 2, 4);
        x.ask(0, 1);
        due("decide(0)", x.decide(0), 1);
        runEverywhere(x, 0);
        due("clean() of a and c", x.clean(), 2);
        due("count(4)", x.count(4), 7);
        for (int r = 0; r < 3; r++) {
            due("DEPS of a at " + r, x.known(r, 0, 3), 0);
            due("DEPS of b at " + r, x.known(r, 1, 3), 0);
        }
        due("clean() again", x.clean(), 0);
        due("propose(3) meets none", x.propose(3), 1);
        cell(x, 2, 3, 1, 0, 1, 0);
    }

    // Promise 23
    private static void undo() {
        LeaderlessOrder x = Check.made(THREE);
        for (int i = 0; i < 10; i++) {
            x.down(1);
            x.up(1);
        }
        x.down(2);
        due("steps to be undone, 16 at most", x.count(8), 16);
        due("down(2) can't be", x.down(2), false);
        due("steps to be undone", x.count(8), 16);
        due("undo()", x.undo(), true);
        due("count(3)", x.count(3), 7);
        for (int i = 0; i < 15; i++) {
            due("undo()", x.undo(), true);
            due("count(3)", x.count(3), i % 2 == 0 ? 5 : 7);
        }
        due("undo(), the seventeenth", x.undo(), false);
        due("count(3)", x.count(3), 5);
        LeaderlessOrder y = twoCommitted();
        y.tell(1, 0);
        y.run(0);
        due("value(0, 0)", y.value(0, 0), 8);
        due("undo() of run", y.undo(), true);
        due("value(0, 0)", y.value(0, 0), 0);
        order(y, 0, "");
        cell(y, 0, 1, 3, 0, 2, 1);
        due("undo() of tell", y.undo(), true);
        cell(y, 0, 1, 1, 0, 2, 1);
        due("undo() of decide", y.undo(), true);
        cell(y, 1, 1, 1, 0, 2, 1);
        due("undo() of ask", y.undo(), true);
        due("ANSWERS", y.command(1, 5), 2);
        due("undo() of propose", y.undo(), true);
        due("ANSWERS", y.command(1, 5), 0);
        due("recover(1, 2)", y.recover(1, 2), 0);
        due("undo() of recover", y.undo(), true);
        due("HOST", y.command(1, 4), 1);
        cell(y, 0, 1, 0, 0, 0, 0);
        due("steps to be undone", y.count(8), 3);
        LeaderlessOrder z = Check.made("replicas 3;keys 1;command a put key 0 value 1 at 0;"
                + "command b put key 0 value 1 at 1;");
        commitAtOnce(z, 0);
        runEverywhere(z, 0);
        due("propose(1)", z.propose(1), 2);
        z.see(0, 1, true);
        Check.work(z, "clean;");
        due("clean()", z.clean(), 1);
        cell(z, 1, 1, 1, 0, 2, 0);
        due("undo() of clean", z.undo(), true);
        due("count(4)", z.count(4), 0);
        cell(z, 1, 1, 1, 0, 2, 1);
        due("SEEN stays", z.count(7), 1);
        due("the WORK stays", z.count(6), 1);
    }

    // Promise 24
    private static void judged() {
        LeaderlessOrder x = Check.made(THREE);
        Check.work(x, "propose a;ask a 1;decide a;run 1;run 0;ask a 2;tell a 1;run 1;down 1;run 1;clean;up 0;");
        due("judged(0): ask a 2", x.judged(0), 5);
        due("judged(1): run 0", x.judged(1), 4);
        due("judged(2)", x.judged(2), 2);
        due("judged(3)", x.judged(3), -2);
        due("judged(-1)", x.judged(-1), -2);
        due("judged(MAX)", x.judged(Integer.MAX_VALUE), -2);
        due("nothing is done", x.count(5), 0);
        due("nothing can be undone", x.count(8), 0);
        x.down(0);
        due("judged(1) from the beginning, not from now", x.judged(1), 4);
        Check.work(x, "run 0;clean;down 0;run 1;");
        due("judged(0), run and clean can be", x.judged(0), NONE);
        due("judged(1), none", x.judged(1), NONE);
        due("judged(2), none", x.judged(2), 0);
        Check.work(x, "down 0;down 0;up 0;up 0;");
        due("judged(0), down again", x.judged(0), 1);
        Check.work(x, "down 0;run 0;");
        due("judged(0), run by one that is down", x.judged(0), 1);
    }

    // Promises 25 and 26
    private static void loneAndHeap() {
        LeaderlessOrder x = Check.made("replicas 3;keys 4;command a put key 0 value 1 at 0;"
                + "command b get key 1 value 2 at 0;command c put key 1 value 3 at 0;command d add key 2 value 4 at 0;"
                + "command e add key 2 value 4 at 0;command f put key 3 value 9 at 0;clashes low=3 and high=9;");
        due("lone()", x.lone(), 1 + 8 + 16);
        due("heap(0)", x.heap(0), 1);
        due("heap(1), on and on", x.heap(1), 2 + 4 + 32);
        due("heap(2)", x.heap(2), 2 + 4 + 32);
        due("heap(5)", x.heap(5), 2 + 4 + 32);
        due("heap(4)", x.heap(4), 16);
        due("heap(6)", x.heap(6), NONE);
        for (int i : NO_INDEX) {
            due("heap(" + i + ")", x.heap(i), NONE);
        }
        due("heap of a long chain", Check.made("replicas 3;keys 4;command a put key 3 value 0 at 0;"
                + "command b put key 0 value 1 at 0;command c put key 2 value 2 at 0;command d put key 1 value 3 at 0;"
                + "clashes apart=1;").heap(0), 15);
        due("lone() of none", new LeaderlessOrder().lone(), 0);
    }

    // Promise 27
    private static void union() {
        LeaderlessOrder x = Check.made(THREE);
        due("union(0, 0), no ANSWERS", x.union(0, 0), 0);
        due("union(0, 1), no ANSWERS", x.union(0, 1), 0);
        x.propose(1);
        x.propose(2);
        x.propose(0);
        due("union(0, 0)", x.union(0, 0), 1);
        x.ask(0, 1);
        due("union(0, 1)", x.union(0, 1), 2);
        x.ask(0, 2);
        due("union(0, 0)", x.union(0, 0), 2);
        due("union(0, 1)", x.union(0, 1), 6);
        x.down(2);
        due("union(0, 1), one is down", x.union(0, 1), 6);
        due("union(0, 2)", x.union(0, 2), NONE);
        due("union(0, -1)", x.union(0, -1), NONE);
        due("union(4, 0)", x.union(4, 0), NONE);
        for (int i : NO_INDEX) {
            due("union(" + i + ", 0)", x.union(i, 0), NONE);
        }
        x.recover(0, 1);
        due("union(0, 0) recovered", x.union(0, 0), 0);
    }

    // Promise 28
    private static void quick() {
        LeaderlessOrder x = Check.made(FIVE);
        due("quick(0)", x.quick(0), false);
        x.propose(0);
        x.ask(0, 1);
        x.ask(0, 2);
        due("quick(0) with 3 of 5", x.quick(0), false);
        x.ask(0, 3);
        due("quick(0) with 4 of 5", x.quick(0), true);
        cell(x, 0, 0, 1, 0, 1, 0);
        x.down(0);
        due("quick(0), the LEADER is down", x.quick(0), false);
        x.up(0);
        x.propose(2);
        due("quick(2) with 1", x.quick(2), false);
        x.decide(0);
        due("quick(0), it is COMMITTED", x.quick(0), false);
        LeaderlessOrder y = Check.made(THREE);
        y.propose(1);
        y.propose(0);
        y.ask(0, 2);
        due("quick(0) with 2 of 3", y.quick(0), true);
        y.ask(0, 1);
        due("quick(0), one is not alike", y.quick(0), false);
        due("quick(4)", y.quick(4), false);
        for (int i : NO_INDEX) {
            due("quick(" + i + ")", y.quick(i), false);
        }
    }

    // Promise 29
    private static void waits() {
        LeaderlessOrder x = twoCommitted();
        due("waits(0)", x.waits(0), 0);
        due("waits(1)", x.waits(1), 1);
        due("waits(2)", x.waits(2), 0);
        x.tell(1, 2);
        due("waits(2)", x.waits(2), 1);
        x.tell(0, 2);
        due("waits(2), COMMITTED", x.waits(2), 0);
        x.run(2);
        due("waits(2), RUN", x.waits(2), 0);
        x.down(1);
        due("waits(1), down", x.waits(1), 1);
        LeaderlessOrder y = Check.made("replicas 3;keys 2;command a put key 0 value 1 at 0;"
                + "command b put key 1 value 1 at 0;command c put key 0 value 1 at 1;"
                + "command d put key 1 value 1 at 1;");
        y.propose(0);
        y.propose(1);
        y.ask(0, 1);
        y.ask(1, 1);
        commitAtOnce(y, 2);
        commitAtOnce(y, 3);
        due("waits(1) for two, of two", y.waits(1), 3);
        due("waits(0), they are ASKED", y.waits(0), 0);
        due("waits(3)", x.waits(3), NONE);
        for (int i : NO_INDEX) {
            due("waits(" + i + ")", x.waits(i), NONE);
        }
    }

    // Promises 30 and 31
    private static void readyAndPlan() {
        LeaderlessOrder x = twoCommitted();
        due("ready(0)", x.ready(0), 1);
        due("ready(1), it waits", x.ready(1), 0);
        due("plan(1, 0)", x.plan(1, 0), NONE);
        x.tell(1, 0);
        x.down(0);
        due("ready(0), were it up", x.ready(0), 3);
        due("plan(0, 0)", x.plan(0, 0), 0);
        due("plan(0, 1)", x.plan(0, 1), 1);
        due("plan(0, 2)", x.plan(0, 2), NONE);
        order(x, 0, "");
        x.up(0);
        x.run(0);
        due("ready(0), RUN already", x.ready(0), 0);
        due("plan(0, 0), RUN already", x.plan(0, 0), NONE);
        x.propose(3);
        x.ask(3, 2);
        x.decide(3);
        due("ready(0)", x.ready(0), 8);
        due("plan(0, 0)", x.plan(0, 0), 3);
        due("ready(3)", x.ready(3), NONE);
        due("plan(3, 0)", x.plan(3, 0), NONE);
        for (int i : NO_INDEX) {
            due("ready(" + i + ")", x.ready(i), NONE);
            due("plan(" + i + ", 0)", x.plan(i, 0), NONE);
            due("plan(0, " + i + ")", x.plan(0, i), NONE);
        }
    }

    // Promise 32
    private static void part() {
        LeaderlessOrder x = ringAtZero();
        due("part(0, 1)", x.part(0, 1), 6);
        due("part(0, 2)", x.part(0, 2), 6);
        due("part(1, 1), c is not COMMITTED there", x.part(1, 1), 2);
        due("part(1, 2)", x.part(1, 2), NONE);
        due("part(0, 0)", x.part(0, 0), NONE);
        x.down(0);
        due("part(0, 1), down", x.part(0, 1), 6);
        x.up(0);
        x.propose(0);
        x.ask(0, 1);
        due("decide(0)", x.decide(0), 1);
        due("part(0, 0), which none leans on", x.part(0, 0), 1);
        x.run(0);
        due("part(0, 1), RUN", x.part(0, 1), NONE);
        due("part(3, 1)", x.part(3, 1), NONE);
        due("part(1, 4)", x.part(1, 4), NONE);
        for (int i : NO_INDEX) {
            due("part(" + i + ", 1)", x.part(i, 1), NONE);
            due("part(1, " + i + ")", x.part(1, i), NONE);
        }
    }

    // Promise 33
    private static void one() {
        LeaderlessOrder x = riskyPair();
        due("one(1), at none", x.one(1), true);
        due("one(0), at one", x.one(0), true);
        x.recover(0, 0);
        x.accept(0, 1);
        x.settle(0);
        due("one(0), two SEQS", x.one(0), false);
        due("run(0)", x.run(0), 1);
        due("one(0), RUN and COMMITTED", x.one(0), false);
        LeaderlessOrder y = twoCommitted();
        y.tell(0, 1);
        y.run(0);
        due("one(0)", y.one(0), true);
        due("one(4)", y.one(4), false);
        for (int i : NO_INDEX) {
            due("one(" + i + ")", y.one(i), false);
        }
    }

    // Promise 34
    private static void agree() {
        LeaderlessOrder x = quarrel();
        due("agree(0, 1)", x.agree(0, 1), false);
        due("agree(1, 0)", x.agree(1, 0), false);
        due("agree(1, 1)", x.agree(1, 1), true);
        due("agree(1, 2)", x.agree(1, 2), true);
        x.tell(1, 2);
        x.run(2);
        order(x, 2, "1");
        due("agree(0, 2), not both RUN", x.agree(0, 2), true);
        x.tell(0, 2);
        x.run(2);
        due("agree(1, 2)", x.agree(1, 2), true);
        due("agree(0, 2)", x.agree(0, 2), false);
        x.down(0);
        due("agree(0, 2), one is down", x.agree(0, 2), false);
        due("agree(0, 3)", x.agree(0, 3), false);
        due("agree(3, 3)", x.agree(3, 3), false);
        for (int i : NO_INDEX) {
            due("agree(" + i + ", 1)", x.agree(i, 1), false);
            due("agree(1, " + i + ")", x.agree(1, i), false);
        }
        LeaderlessOrder y = Check.made("replicas 3;keys 2;command a put key 0 value 1 at 0;"
                + "command b put key 1 value 1 at 0;");
        commitAtOnce(y, 0);
        commitAtOnce(y, 1);
        y.tell(1, 1);
        y.run(1);
        y.tell(0, 1);
        y.run(1);
        y.run(0);
        order(y, 0, "01");
        order(y, 1, "10");
        due("agree(0, 1), they do not CLASH", y.agree(0, 1), true);
    }

    // Promise 35
    private static void before() {
        LeaderlessOrder x = quarrel();
        due("before(0, 0, 1)", x.before(0, 0, 1), true);
        due("before(0, 1, 0)", x.before(0, 1, 0), false);
        due("before(1, 0, 1)", x.before(1, 0, 1), false);
        due("before(1, 1, 0)", x.before(1, 1, 0), true);
        due("before(2, 0, 1), none RUN", x.before(2, 0, 1), false);
        x.tell(1, 2);
        x.run(2);
        due("before(2, 1, 0), the second one not RUN", x.before(2, 1, 0), true);
        due("before(2, 0, 1), the first one not RUN", x.before(2, 0, 1), false);
        due("before(0, 0, 0)", x.before(0, 0, 0), false);
        due("before(3, 0, 1)", x.before(3, 0, 1), false);
        due("before(0, 0, 2)", x.before(0, 0, 2), false);
        for (int i : NO_INDEX) {
            due("before(" + i + ", 0, 1)", x.before(i, 0, 1), false);
            due("before(0, " + i + ", 1)", x.before(0, i, 1), false);
            due("before(0, 0, " + i + ")", x.before(0, 0, i), false);
        }
    }

    // Promise 36
    private static void bare() {
        LeaderlessOrder x = twoCommitted();
        due("bare(0)", x.bare(0), 2);
        due("bare(1)", x.bare(1), 1);
        due("bare(2)", x.bare(2), 3);
        x.run(0);
        x.down(0);
        x.down(1);
        due("bare(2), the others are down", x.bare(2), 3);
        due("bare(0), RUN", x.bare(0), 2);
        due("bare(3)", x.bare(3), NONE);
        for (int i : NO_INDEX) {
            due("bare(" + i + ")", x.bare(i), NONE);
        }
    }

    // Promise 37
    private static void level() {
        LeaderlessOrder x = Check.made(THREE.replace("value 3 at 1", "value 3 at 0"));
        commitAtOnce(x, 0);
        commitAtOnce(x, 3);
        runEverywhere(x, 3);
        due("level(0), the first one is not RUN by all", x.level(0), 0);
        runEverywhere(x, 0);
        due("level(0), b is not RUN", x.level(0), 1);
        commitAtOnce(x, 1);
        runEverywhere(x, 1);
        x.down(1);
        due("level(0)", x.level(0), 3);
        due("level(1), it leads none", x.level(1), 0);
        due("level(2)", x.level(2), 0);
        due("level(3)", x.level(3), NONE);
        for (int i : NO_INDEX) {
            due("level(" + i + ")", x.level(i), NONE);
        }
    }

    // Promise 38
    private static void stuck() {
        LeaderlessOrder x = twoCommitted();
        x.propose(2);
        x.tell(0, 1);
        due("stuck(), all are up", x.stuck(), 0);
        x.down(2);
        due("stuck(), MOST are up", x.stuck(), 0);
        x.down(1);
        due("stuck(), 0 has b ASKED, c not", x.stuck(), 2);
        x.up(1);
        x.down(0);
        due("stuck(), 1 has a and b COMMITTED", x.stuck(), 0);
        x.down(1);
        due("stuck(), none is up", x.stuck(), 0);
        LeaderlessOrder y = Check.made(FIVE);
        y.propose(0);
        for (int r = 1; r < 4; r++) {
            y.ask(0, r);
        }
        y.decide(0);
        y.propose(1);
        y.down(2);
        y.down(3);
        due("stuck(), 3 of 5 are up", y.stuck(), 0);
        y.down(4);
        due("stuck(), 0 and 1 are up", y.stuck(), 3);
        y.tell(0, 1);
        due("stuck(), a is COMMITTED at both", y.stuck(), 2);
        y.run(0);
        due("stuck(), a is RUN at 0", y.stuck(), 2);
        y.down(1);
        due("stuck(), 0 is up", y.stuck(), 0);
        y.up(4);
        due("stuck(), 4 does not know of a", y.stuck(), 1);
    }

    // Promise 39
    private static void finds() {
        LeaderlessOrder x = Check.made(THREE);
        due("finds(0, 1)", x.finds(0, 1), 0);
        x.propose(0);
        due("finds(0, 1)", x.finds(0, 1), 1);
        x.ask(0, 1);
        due("finds(0, 0)", x.finds(0, 0), 2);
        x.propose(2);
        x.ask(0, 2);
        due("decide(0)", x.decide(0), 0);
        due("finds(0, 1)", x.finds(0, 1), 3);
        x.down(0);
        due("finds(0, 1), the LEADER is down", x.finds(0, 1), 2);
        due("finds(0, 0) that is down", x.finds(0, 0), NONE);
        x.up(0);
        x.accept(0, 1);
        x.settle(0);
        due("finds(0, 1)", x.finds(0, 1), 4);
        due("finds(0, 0), COMMITTED", x.finds(0, 0), NONE);
        cell(x, 1, 0, 2, 0, 2, 4);
        x.down(0);
        x.down(2);
        due("finds(0, 1) with too few", x.finds(0, 1), NONE);
        due("finds(0, 3)", x.finds(0, 3), NONE);
        due("finds(4, 1)", x.finds(4, 1), NONE);
        x.up(0);
        for (int i : NO_INDEX) {
            due("finds(" + i + ", 1)", x.finds(i, 1), NONE);
            due("finds(1, " + i + ")", x.finds(1, i), NONE);
        }
    }

    // Promise 40
    private static void risk() {
        LeaderlessOrder x = riskyPair();
        due("risk(0), without 2", x.risk(0), 1);
        due("risk(1)", x.risk(1), NONE);
        due("down stays", x.count(3), 3);
        due("steps stay", x.count(8), 9);
        x.recover(0, 0);
        x.accept(0, 1);
        x.settle(0);
        // By 0 it has SEQ 1; without 0 it is found at 2, where it is EMPTY.
        due("risk(0), two SEQS", x.risk(0), 1);
        due("run(0)", x.run(0), 1);
        due("risk(0), RUN", x.risk(0), 1);
        x.up(2);
        due("tell(0, 1)", x.tell(0, 1), true);
        due("risk(0), all have it COMMITTED", x.risk(0), 0);
        due("undo()", x.undo(), true);
        x.down(0);
        due("tell(0, 1) by 2", x.tell(0, 1), true);
        cell(x, 1, 0, 3, 4, 0, 0);
        due("risk(0), none is left to RECOVER it", x.risk(0), 0);
        LeaderlessOrder y = Check.made(FIVE);
        y.propose(0);
        for (int r = 1; r < 4; r++) {
            y.ask(0, r);
        }
        due("risk(0), ASKED", y.risk(0), NONE);
        y.decide(0);
        due("risk(0), at once", y.risk(0), 0);
        due("risk(4)", y.risk(4), NONE);
        for (int i : NO_INDEX) {
            due("risk(" + i + ")", y.risk(i), NONE);
        }
        // 0 and 1 still hold what 0 had ACCEPTED alone; 2, 3 and 4 have settled on nothing.
        LeaderlessOrder z = Check.made(FIVE);
        z.propose(0);
        z.recover(0, 0);
        z.accept(0, 1);
        z.down(0);
        z.down(1);
        due("recover(0, 4)", z.recover(0, 4), 0);
        z.accept(0, 2);
        z.accept(0, 3);
        z.settle(0);
        due("risk(0), BALLOTS tell", z.risk(0), 0);
        z.up(0);
        z.up(1);
        z.down(4);
        due("recover(0, 1)", z.recover(0, 1), 3);
        cell(z, 1, 0, 2, 3, 0, 0);
        // Now all but 4 have BALLOT 3, and 0 has SEQ 1: it is first in each set without 4 and with 0.
        due("risk(0), without 4 and one of 1, 2, 3", z.risk(0), 3);
    }

    // Promises 41, 42 and 43
    private static void seeWhoLook() {
        LeaderlessOrder x = quarrel();
        due("who(), nothing SEEN", x.who(), 7);
        due("look()", x.look(), 1);
        due("see(0, 1, false)", x.see(0, 1, false), true);
        due("who()", x.who(), 6);
        due("look()", x.look(), 8);
        due("see(1, 0, true)", x.see(1, 0, true), true);
        due("who()", x.who(), 2);
        due("look(), one is left", x.look(), NONE);
        x.tell(1, 2);
        x.run(2);
        due("who(), as all is when it is asked", x.who(), 6);
        due("look()", x.look(), NONE);
        x.down(2);
        due("who(), down too", x.who(), 6);
        due("see(1, 0, false)", x.see(1, 0, false), true);
        due("who(), none", x.who(), 0);
        due("look(), none", x.look(), NONE);
        due("see(0, 0, true)", x.see(0, 0, true), false);
        due("see(2, 0, true)", x.see(2, 0, true), false);
        for (int i : NO_INDEX) {
            due("see(0, " + i + ", true)", x.see(0, i, true), false);
            due("see(" + i + ", 0, true)", x.see(i, 0, true), false);
        }
        due("count(7)", x.count(7), 3);
        for (int i = 3; i < 8; i++) {
            due("see(1, 0, true)", x.see(1, 0, true), true);
        }
        due("see(1, 0, true), the ninth", x.see(1, 0, true), false);
        due("count(7)", x.count(7), 8);
        LeaderlessOrder y = Check.made(FIVE);
        commitFive(y, 3);
        commitFive(y, 2);
        y.run(0);
        y.tell(3, 1);
        y.run(1);
        y.tell(2, 2);
        y.run(2);
        // d is RUN by 0 and 1, c by 2: c before d parts 1 : 4, d before a 2 : 3.
        due("look(), the least of the greater ones, the first", y.look(), 8 * 3);
        due("see(3, 0, true)", y.see(3, 0, true), true);
        due("who()", y.who(), 3);
        due("look(), both have RUN d alone", y.look(), NONE);
    }

    private static void commitFive(LeaderlessOrder x, int command) {
        int leader = x.command(command, 3);
        x.propose(command);
        for (int r = 0; r < 5; r++) {
            x.ask(command, r);
        }
        due("decide(" + command + ")", x.decide(command), 1);
        due("COMMITTED at " + leader, x.known(leader, command, 0), 3);
    }

    // Promise 44
    private static void drives() {
        LeaderlessOrder x = Check.made(THREE);
        due("drives(0, 1, 0): the first draw is 0, PROPOSE", x.drives(0, 1, 0), 1);
        due("drives of draws", drawn(x, THREE, 3, 40), 0);
        due("drives of draws", drawn(x, THREE, 9999, 99), 0);
        due("drives of draws", drawn(x, THREE, 0, 99), 0);
        due("nothing is done by it", x.count(8), 0);
        due("all is up", x.count(3), 7);
        due("none is ASKED", x.known(0, 0, 0), 0);
        due("drives(-1, 1, 0)", x.drives(-1, 1, 0), NONE);
        due("drives(10000, 1, 0)", x.drives(10000, 1, 0), NONE);
        due("drives(1, 0, 0)", x.drives(1, 0, 0), NONE);
        due("drives(1, 100, 0)", x.drives(1, 100, 0), NONE);
        due("drives(1, 1, 3)", x.drives(1, 1, 3), NONE);
        due("drives(1, 1, -1)", x.drives(1, 1, -1), NONE);
        for (int i : new int[] {Integer.MIN_VALUE, Integer.MAX_VALUE}) {
            due("drives(" + i + ", 1, 0)", x.drives(i, 1, 0), NONE);
            due("drives(1, " + i + ", 0)", x.drives(1, i, 0), NONE);
            due("drives(1, 1, " + i + ")", x.drives(1, 1, i), NONE);
        }
        LeaderlessOrder none = new LeaderlessOrder();
        for (int what = 0; what < 3; what++) {
            due("drives without a group", none.drives(5, 99, what), 0);
        }
        LeaderlessOrder y = quarrel();
        boolean some = false;
        for (int seed = 0; seed < 50; seed++) {
            some |= y.drives(seed, 1, 1) == 4;
        }
        due("drives from now on, what 1", some, true);
        due("drives from now on, what 2", y.drives(0, 1, 2), 1);
    }

    /** Does by hand what a drive draws: how many of its three answers differ. */
    private static int drawn(LeaderlessOrder x, String group, int seed, int many) {
        LeaderlessOrder y = Check.made(group);
        long g = seed;
        int could = 0;
        for (int i = 0; i < many; i++) {
            int[] draws = new int[3];
            int[] below = {9, y.count(2), y.count(0)};
            for (int k = 0; k < 3; k++) {
                g = (g * 1103515245 + 12345) % (1L << 31);
                draws[k] = (int) ((g >> 16) % below[k]);
            }
            int c = draws[1];
            int r = draws[2];
            boolean can = switch (draws[0]) {
                case 0 -> y.propose(c) != NONE;
                case 1 -> y.ask(c, r) != NONE;
                case 2 -> y.decide(c) != NONE;
                case 3 -> y.accept(c, r) != NONE;
                case 4 -> y.settle(c);
                case 5 -> y.tell(c, r);
                case 6 -> y.recover(c, r) != NONE;
                case 7 -> y.run(r) != NONE;
                default -> y.down(r) || y.up(r);
            };
            could += can ? 1 : 0;
        }
        int pairs = 0;
        for (int r = 0; r < y.count(0); r++) {
            for (int o = 0; o < r; o++) {
                pairs += y.agree(r, o) ? 0 : 1;
            }
        }
        return (x.drives(seed, many, 0) == could ? 0 : 1) + (x.drives(seed, many, 1) == y.count(5) ? 0 : 1)
                + (x.drives(seed, many, 2) == pairs ? 0 : 1);
    }

    // Promise 45
    private static void mark() {
        LeaderlessOrder x = twoCommitted();
        due("mark(3, true), nothing is on it", x.mark(3, true), false);
        due("steps to be undone", x.count(8), 6);
        Check.work(x, "clean;clean;");
        x.see(0, 1, false);
        due("mark(3, false)", x.mark(3, false), true);
        due("steps to be undone", x.count(8), 6);
        x.run(0);
        x.down(2);
        x.see(1, 0, false);
        Check.work(x, "clean;");
        Check.feed(x, "key");
        due("mark(0, false)", x.mark(0, false), true);
        due("mark(3, true)", x.mark(3, true), true);
        order(x, 0, "");
        due("count(3)", x.count(3), 7);
        due("count(5)", x.count(5), 0);
        due("lines", x.count(6), 2);
        due("SEEN", x.count(7), 1);
        due("to be undone", x.count(8), 0);
        due("undo()", x.undo(), false);
        due("the TAPE stays", x.count(9), 3);
        cell(x, 0, 0, 3, 0, 1, 0);
        x.down(1);
        due("mark(3, true) again", x.mark(3, true), true);
        due("count(3)", x.count(3), 7);
        due("mark(0, true)", x.mark(0, true), true);
        order(x, 0, "0");
        due("value(0, 0)", x.value(0, 0), 5);
        due("count(3)", x.count(3), 3);
        due("lines", x.count(6), 1);
        due("SEEN", x.count(7), 2);
        x.up(2);
        due("mark(0, false) laid anew", x.mark(0, false), true);
        x.down(2);
        due("mark(0, true)", x.mark(0, true), true);
        due("count(3)", x.count(3), 7);
        due("mark(1, true)", x.mark(1, true), false);
        due("mark(4, false)", x.mark(4, false), false);
        due("mark(4, true)", x.mark(4, true), false);
        for (int i : NO_INDEX) {
            due("mark(" + i + ", false)", x.mark(i, false), false);
            due("mark(" + i + ", true)", x.mark(i, true), false);
        }
        LeaderlessOrder z = Check.made("replicas 3;keys 1;command a put key 0 value 5 at 0;"
                + "command b get key 0 value 0 at 0;");
        z.mark(0, false);
        commitAtOnce(z, 0);
        commitAtOnce(z, 1);
        z.run(0);
        z.mark(1, false);
        z.mark(0, true);
        commitAtOnce(z, 1);
        z.run(0);
        due("got(0, 1) the other way", z.got(0, 1), 0);
        z.mark(1, true);
        due("got(0, 1)", z.got(0, 1), 5);
        due("value(0, 0)", z.value(0, 0), 5);
        order(z, 0, "01");
        LeaderlessOrder y = new LeaderlessOrder();
        due("mark(0, false) without a group", y.mark(0, false), true);
        due("mark(0, true) without a group", y.mark(0, true), true);
    }

    // Promise 46
    private static void count() {
        LeaderlessOrder x = quarrel();
        x.tell(1, 2);
        x.run(2);
        x.tell(0, 2);
        x.run(2);
        due("clean()", x.clean(), 2);
        x.down(1);
        x.see(0, 1, true);
        Check.work(x, "clean;clean;clean;");
        Check.feed(x, "run");
        int[] want = {3, 1, 2, 5, 3, 6, 3, 1, 16, 3};
        for (int what = 0; what < want.length; what++) {
            due("count(" + what + ")", x.count(what), want[what]);
        }
        due("count(10)", x.count(10), NONE);
        due("count(-1)", x.count(-1), NONE);
        due("count(MIN)", x.count(Integer.MIN_VALUE), NONE);
        due("count(MAX)", x.count(Integer.MAX_VALUE), NONE);
    }
}
