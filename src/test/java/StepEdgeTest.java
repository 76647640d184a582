/** The boundary cases that the document's second part of "Terms" and promises 11 to 24 name, sentence by sentence. */
public final class StepEdgeTest {
    /** a, b, c CLASH with one another, d with none. */
    private static final String THREE = "replicas 3;keys 2;command a put key 0 value 5 at 0;"
            + "command b add key 0 value 3 at 1;command c get key 0 value 0 at 2;command d put key 1 value 9 at 0;";
    private static final String FIVE = THREE.replace("replicas 3", "replicas 5");
    private static final String PAIR = "replicas 3;keys 1;command a put key 0 value 5 at 0;"
            + "command b put key 0 value 7 at 1;";
    /** x CLASHES with y and c, y and c do not: c may have one SEQ here, another one there, with the same DEPS. */
    private static final String CHAIN = "replicas 3;keys 2;command x put key 0 value 1 at 0;"
            + "command y put key 1 value 2 at 2;command c get key 0 value 9 at 0;clashes low=1 and high=2;";
    /** c CLASHES with x and y, these do not: c may have other DEPS here than there, with the same SEQ. */
    private static final String SIDE = "replicas 3;keys 2;command x put key 0 value 1 at 0;"
            + "command y put key 1 value 2 at 1;command c get key 0 value 3 at 0;clashes low=2 and high=3;";
    /** Then c has SEQ 2 at 0 and at 1, SEQ 3 at 2, and x alone as DEPS. */
    private static final String CHAIN_ASKED = "propose(1)=1 propose(0)=1 ask(0,2)=0 propose(2)=2 known(0,2,3)=1 ";
    /** Then c has SEQ 2 everywhere, y among its DEPS at 1 alone. */
    private static final String SIDE_ASKED = "propose(0)=1 propose(1)=1 propose(2)=2 known(0,2,3)=1 ";
    /** Of PAIR: a is COMMITTED at 2 with SEQ 0, ACCEPTED at 0 with SEQ 1 and at 1 with SEQ 0, both by BALLOT 3. */
    private static final String TORN = "propose(0)=1 recover(0,0)=1 down(0)=true recover(0,2)=0 accept(0,1)=2 "
            + "settle(0)=true down(2)=true up(0)=true recover(0,1)=3 ";
    /** And behind it: a is COMMITTED at 0 with SEQ 1, too. */
    private static final String TORN_TWICE = TORN + "recover(0,0)=3 accept(0,1)=2 settle(0)=true up(2)=true "
            + "known(0,0,0)=3 known(0,0,2)=1 known(2,0,0)=3 known(2,0,2)=0 known(1,0,0)=2 ";

    private StepEdgeTest() { }

    public static void main(String[] args) {
        clash();
        atFirst();
        meets();
        behind();
        nothingByOneDown();
        propose();
        ask();
        askAnswers();
        decideMost();
        decideAtOnce();
        accept();
        settle();
        tell();
        recoverIf();
        recoverBallots();
        recoverLays();
        foundFour();
        foundThree();
        foundTwo();
        foundOne();
        foundNone();
        runIf();
        runParts();
        runKinds();
        empty();
        clean();
        cleanDeps();
        downAndUp();
        undo();
        undoEach();
        judged();
        judgedLines();
        Check.end("StepEdgeTest");
    }

    private static void says(String words) {
        Check.says(words);
    }

    private static LeaderlessOrder made(String group, String calls) {
        return Calls.made(group, calls);
    }

    private static String five(String group) {
        return group.replace("replicas 3", "replicas 5");
    }

    private static void clash() {
        says("Two COMMANDS CLASH if one is a wipe");
        String[] kinds = {"put", "add", "get", "wipe"};
        for (int i = 0; i < 4; i++) {
            for (int j = 0; j < 4; j++) {
                for (int key = 0; key < 2; key++) {
                    for (String law : new String[] {"", "clashes 0;", "clashes 1;", "clashes 0-1;"}) {
                        LeaderlessOrder x = Check.made("replicas 3;keys 2;command a " + kinds[i]
                                + " key 0 value 1 at 0;command b " + kinds[j] + " key " + key + " value 2 at 1;" + law);
                        says("CLASH if one is a wipe; if they have one KEY, unless both are get or both are add; or "
                                + "if the E of clashes is not 0");
                        boolean isMild = i == j && (i == 1 || i == 2);
                        boolean want = i == 3 || j == 3 || key == 0 && !isMild || law.contains("1");
                        Check.due("clash(0, 1) of " + kinds[i] + ", " + kinds[j] + ", " + key + law, x.clash(0, 1), want);
                        Check.due("clash(1, 0) of " + kinds[i] + ", " + kinds[j] + ", " + key + law, x.clash(1, 0), want);
                        says("clash: false: others, the same");
                        Calls.due(x, "clash(0,0)=false clash(1,1)=false clash(0,2)=false clash(2,0)=false "
                                + "clash(-1,0)=false clash(0,-1)=false clash(MAX,0)=false clash(0,MIN)=false");
                    }
                }
            }
        }
    }

    private static void atFirst() {
        says("STATUS (0 [...]), a BALLOT (0), a SEQ (0), and DEPS, other COMMANDS (none). A COMMAND has a HOST (its "
                + "LEADER, at first), ANSWERS and ACCEPTS, REPLICAS (none)");
        LeaderlessOrder x = Check.made(FIVE);
        for (int c = 0; c < 4; c++) {
            Check.due("HOST of " + c, x.command(c, 4), x.command(c, 3));
            Calls.due(x, "command(" + c + ",5)=0 command(" + c + ",6)=0 command(" + c + ",7)=0");
            for (int r = 0; r < 5; r++) {
                for (int what = 0; what < 4; what++) {
                    Check.due("known(" + r + ", " + c + ", " + what + ")", x.known(r, c, what), 0);
                }
            }
        }
    }

    private static void meets() {
        says("What it MEETS at a REPLICA: the COMMANDS with a STATUS of 1 or more there that CLASH with it");
        made(THREE, "propose(0)=1 propose(1)=1 known(1,1,3)=0");
        made(THREE, "propose(0)=1 ask(0,1)=1 propose(1)=2 known(1,1,3)=1");
        made(FIVE, "propose(0)=1 ask(0,2)=1 ask(0,3)=1 decide(0)=0 accept(0,1)=2 known(1,0,0)=2 propose(1)=2 "
                + "known(1,1,3)=1");
        made(THREE, "propose(0)=1 ask(0,2)=1 decide(0)=1 tell(0,1)=true known(1,0,0)=3 propose(1)=2 known(1,1,3)=1");
        made(THREE, "propose(0)=1 ask(0,2)=1 decide(0)=1 tell(0,1)=true run(1)=1 known(1,0,0)=4 propose(1)=2 "
                + "known(1,1,3)=1");
        made(THREE, "propose(0)=1 propose(3)=1 known(0,3,3)=0 known(0,0,3)=0");
        says("but those CLEANED");
        made(THREE, "propose(0)=1 ask(0,2)=1 decide(0)=1 tell(0,1)=true tell(0,2)=true run(0)=1 run(1)=1 run(2)=1 "
                + "clean()=1 propose(1)=1 known(1,1,3)=0 ask(1,0)=1 known(0,1,3)=0 known(0,1,2)=1");
    }

    private static void behind() {
        says("it is BEHIND these: by 1 more than the greatest of their SEQS there, 1 if there are none");
        String four = "replicas 3;keys 1;command a put key 0 value 1 at 0;command b put key 0 value 2 at 0;"
                + "command c put key 0 value 3 at 0;command d put key 0 value 4 at 0;";
        made(four, "propose(0)=1 propose(2)=2 propose(1)=3 known(0,1,3)=5 propose(3)=4 known(0,3,3)=7");
        made(four, "propose(3)=1 propose(2)=2 propose(1)=3 propose(0)=4 known(0,0,3)=14");
        made(CHAIN.replace("value 9 at 0", "value 9 at 2"), "propose(1)=1 propose(0)=1 ask(0,2)=0 known(2,0,2)=2 "
                + "propose(2)=3 known(2,2,3)=1");
        made(CHAIN, CHAIN_ASKED + "known(0,2,2)=2");
        // What is EMPTY has SEQ 0, and is met like all others.
        made(THREE, "down(0)=true recover(0,1)=0 known(1,0,0)=2 known(1,0,2)=0 propose(1)=1 known(1,1,3)=1");
    }

    private static void nothingByOneDown() {
        says("Nothing can be done by, or with, a REPLICA that is down");
        made(THREE, "down(0)=true propose(0)=NONE propose(1)=1 up(0)=true propose(0)=1");
        made(THREE, "propose(0)=1 down(0)=true ask(0,1)=NONE up(0)=true down(1)=true ask(0,1)=NONE ask(0,2)=1 "
                + "down(0)=true decide(0)=NONE quick(0)=false up(0)=true down(2)=true quick(0)=true decide(0)=1 "
                + "known(0,0,0)=3");
        made(FIVE, "propose(0)=1 ask(0,1)=1 ask(0,2)=1 decide(0)=0 down(0)=true accept(0,1)=NONE up(0)=true "
                + "down(1)=true accept(0,1)=NONE accept(0,2)=2 accept(0,3)=3 down(0)=true settle(0)=false up(0)=true "
                + "down(2)=true down(3)=true settle(0)=true tell(0,1)=false up(1)=true down(0)=true tell(0,1)=false "
                + "up(0)=true tell(0,1)=true");
        made(THREE, "down(0)=true recover(0,0)=NONE finds(0,0)=NONE run(0)=NONE recover(0,1)=0 known(0,0,1)=0 "
                + "known(2,0,1)=1 up(0)=true run(0)=0 recover(0,0)=3");
        made(THREE, "down(0)=true down(0)=false up(1)=false");
    }

    private static void propose() {
        says("PROPOSE, if its STATUS and BALLOT are 0 at its LEADER");
        made(THREE, "propose(0)=1 propose(0)=NONE known(0,0,0)=1 count(8)=1");
        made(FIVE, "propose(0)=1 ask(0,1)=1 ask(0,2)=1 decide(0)=0 known(0,0,0)=2 propose(0)=NONE");
        made(THREE, "propose(0)=1 ask(0,1)=1 decide(0)=1 known(0,0,0)=3 propose(0)=NONE run(0)=1 known(0,0,0)=4 "
                + "propose(0)=NONE");
        made(THREE, "recover(0,1)=0 known(0,0,0)=0 known(0,0,1)=1 propose(0)=NONE");
        made(THREE, "down(0)=true recover(0,1)=0 accept(0,2)=2 settle(0)=true up(0)=true tell(0,0)=true "
                + "known(0,0,0)=3 known(0,0,1)=0 propose(0)=NONE");
        says("it is ASKED there, DEPS: what it MEETS there, SEQ: what it is BEHIND there; its ANSWERS are the LEADER");
        made(THREE, "down(0)=true recover(0,1)=0 up(0)=true propose(0)=1 known(0,0,0)=1 known(0,0,1)=0 "
                + "known(0,0,2)=1 known(0,0,3)=0 command(0,4)=1 command(0,5)=1 command(0,6)=2 known(2,0,0)=0");
        made(THREE, "propose(1)=1 ask(1,0)=1 propose(0)=2 known(0,0,3)=2 command(0,5)=1 command(0,6)=0");
        says("propose: NONE: others");
        made(THREE, "propose(4)=NONE propose(-1)=NONE propose(MAX)=NONE propose(MIN)=NONE count(8)=0");
        Calls.due(new LeaderlessOrder(), "propose(0)=NONE");
    }

    private static void ask() {
        says("ASK of a REPLICA, if it is ASKED at its LEADER, BALLOT 0");
        made(THREE, "ask(0,1)=NONE propose(0)=1 ask(0,1)=1 decide(0)=1 ask(0,2)=NONE run(0)=1 ask(0,2)=NONE");
        made(FIVE, "propose(0)=1 ask(0,1)=1 ask(0,2)=1 decide(0)=0 ask(0,3)=NONE");
        made(FIVE, "propose(0)=1 down(4)=true recover(0,1)=1 up(4)=true known(0,0,0)=1 known(0,0,1)=1 known(4,0,1)=0 "
                + "ask(0,4)=NONE");
        says("and has STATUS and BALLOT 0 at that one (not its LEADER)");
        made(THREE, "propose(0)=1 ask(0,0)=NONE ask(0,1)=1 ask(0,1)=NONE");
        made(THREE, "down(0)=true recover(0,1)=0 up(0)=true propose(0)=1 known(2,0,0)=0 known(2,0,1)=1 ask(0,2)=NONE");
        String other = "propose(0)=1 down(0)=true down(1)=true recover(0,2)=0 accept(0,3)=2 accept(0,4)=3 "
                + "settle(0)=true up(0)=true up(1)=true ";
        made(FIVE, other + "tell(0,1)=true known(1,0,0)=3 known(1,0,1)=0 ask(0,1)=NONE");
        made(FIVE, other + "tell(0,1)=true run(1)=1 known(1,0,0)=4 ask(0,1)=NONE");
        made(FIVE, other + "accept(0,1)=NONE command(0,5)=0 ask(0,1)=1 command(0,5)=2 union(0,0)=1 decide(0)=NONE");
        says("it is ASKED there, too [...]; that one is among its ANSWERS");
        made(THREE, "propose(0)=1 ask(0,2)=1 known(2,0,0)=1 known(2,0,1)=0 command(0,5)=5 ask(0,1)=1 command(0,5)=7");
        says("ask: NONE: others");
        made(THREE, "propose(0)=1 ask(0,3)=NONE ask(0,-1)=NONE ask(0,MAX)=NONE ask(0,MIN)=NONE ask(4,1)=NONE "
                + "ask(-1,1)=NONE ask(MAX,1)=NONE ask(MIN,1)=NONE count(8)=1");
        Calls.due(new LeaderlessOrder(), "ask(0,1)=NONE ask(0,0)=NONE");
    }

    private static void askAnswers() {
        says("DEPS: those that the LEADER has and what it MEETS there, SEQ: the greater one of the LEADER's and of what "
                + "it is BEHIND there / 1 SEQ and DEPS are what the LEADER has, 0 not");
        // The SEQ alone, the DEPS alone, both.
        made(CHAIN, CHAIN_ASKED + "ask(2,1)=1 known(1,2,2)=2 known(1,2,3)=1 ask(2,2)=0 known(2,2,2)=3 known(2,2,3)=1");
        made(SIDE, SIDE_ASKED + "ask(2,2)=1 ask(2,1)=0 known(1,2,2)=2 known(1,2,3)=3");
        made(THREE, "propose(1)=1 propose(0)=1 ask(0,1)=0 known(1,0,2)=2 known(1,0,3)=2 ask(0,2)=1");
        // The LEADER's SEQ is the greater one, at a REPLICA that MEETS what the LEADER has among the DEPS, too.
        made(THREE, "propose(2)=1 ask(2,1)=1 propose(1)=2 ask(1,0)=1 known(0,1,3)=4 ask(1,2)=1 known(2,1,2)=2 "
                + "propose(0)=3 known(0,0,3)=2 ask(0,2)=0 known(2,0,2)=3 known(2,0,3)=6");
    }

    private static void decideMost() {
        says("DECIDE, if it is ASKED at its LEADER, BALLOT 0, and its ANSWERS are MOST or more (MOST: 2 of 3 REPLICAS, "
                + "3 of 5)");
        made(THREE, "decide(0)=NONE propose(0)=1 decide(0)=NONE quick(0)=false ask(0,1)=1 decide(0)=1 decide(0)=NONE");
        made(THREE, "propose(0)=1 ask(0,1)=1 decide(0)=1 run(0)=1 decide(0)=NONE");
        made(FIVE, "propose(0)=1 ask(0,1)=1 decide(0)=NONE ask(0,2)=1 decide(0)=0 decide(0)=NONE");
        made(FIVE, "propose(0)=1 ask(0,1)=1 ask(0,2)=1 ask(0,3)=1 recover(0,4)=2 known(0,0,0)=1 known(0,0,1)=1 "
                + "command(0,5)=0 decide(0)=NONE quick(0)=false");
        says("decide: NONE: others");
        made(THREE, "decide(4)=NONE decide(-1)=NONE decide(MAX)=NONE decide(MIN)=NONE count(8)=0");
        Calls.due(new LeaderlessOrder(), "decide(0)=NONE");
    }

    private static void decideAtOnce() {
        says("at once, if they are FAST or more (FAST: 2 of 3, 4 of 5) and the UNION is what its LEADER has: it is "
                + "COMMITTED there");
        made(THREE, "propose(0)=1 ask(0,1)=1 quick(0)=true decide(0)=1 known(0,0,0)=3 known(1,0,0)=1 command(0,6)=0");
        made(THREE, "propose(0)=1 ask(0,1)=1 ask(0,2)=1 decide(0)=1");
        made(FIVE, "propose(0)=1 ask(0,1)=1 ask(0,2)=1 quick(0)=false ask(0,3)=1 quick(0)=true decide(0)=1");
        made(FIVE, "propose(0)=1 ask(0,1)=1 ask(0,2)=1 ask(0,3)=1 ask(0,4)=1 quick(0)=true decide(0)=1 known(0,0,1)=0");
        says("else it is ACCEPTED there by the UNION, its ACCEPTS are the LEADER");
        made(FIVE, "propose(0)=1 ask(0,1)=1 ask(0,2)=1 decide(0)=0 known(0,0,0)=2 known(0,0,1)=0 known(0,0,2)=1 "
                + "known(0,0,3)=0 command(0,6)=1 command(0,5)=7 known(1,0,0)=1");
        made(CHAIN, CHAIN_ASKED + "ask(2,2)=0 ask(2,1)=1 quick(2)=false union(2,0)=3 union(2,1)=1 decide(2)=0 "
                + "known(0,2,0)=2 known(0,2,2)=3 known(0,2,3)=1 command(2,6)=1");
        made(SIDE, SIDE_ASKED + "ask(2,1)=0 ask(2,2)=1 quick(2)=false union(2,0)=2 union(2,1)=3 decide(2)=0 "
                + "known(0,2,0)=2 known(0,2,2)=2 known(0,2,3)=3");
        made(five(CHAIN), CHAIN_ASKED + "ask(2,1)=1 ask(2,3)=1 ask(2,4)=1 quick(2)=true ask(2,2)=0 quick(2)=false "
                + "decide(2)=0 known(0,2,2)=3");
        made(FIVE, "propose(1)=1 propose(2)=1 propose(0)=1 ask(0,1)=0 ask(0,2)=0 decide(0)=0 known(0,0,2)=2 "
                + "known(0,0,3)=6");
    }

    private static void accept() {
        says("ACCEPT of a REPLICA, if it is ACCEPTED at its HOST");
        made(FIVE, "accept(0,1)=NONE propose(0)=1 ask(0,1)=1 ask(0,2)=1 accept(0,1)=NONE decide(0)=0 accept(0,1)=2 "
                + "accept(0,2)=3 settle(0)=true accept(0,3)=NONE run(0)=1 accept(0,3)=NONE");
        made(FIVE, "propose(0)=1 ask(0,1)=1 ask(0,2)=1 ask(0,3)=1 decide(0)=1 accept(0,1)=NONE");
        made(THREE, "recover(0,2)=0 accept(0,0)=2 accept(0,1)=3 command(0,6)=7 known(0,0,0)=2");
        says("and that one's STATUS is less than 3");
        made(FIVE, "propose(1)=1 propose(0)=1 ask(0,1)=0 ask(0,2)=1 decide(0)=0 known(0,0,2)=2 known(3,0,0)=0 "
                + "accept(0,3)=2 known(3,0,0)=2 known(3,0,2)=2 known(3,0,3)=2 known(2,0,0)=1 known(2,0,2)=1 "
                + "accept(0,2)=3 known(2,0,0)=2 known(2,0,2)=2 known(2,0,3)=2 known(2,0,1)=0");
        made(PAIR, TORN + "known(0,0,0)=2 known(0,0,2)=1 up(2)=true known(2,0,0)=3 accept(0,2)=NONE accept(0,0)=2 "
                + "known(0,0,2)=0");
        made(PAIR, TORN + "up(2)=true run(2)=1 known(2,0,0)=4 accept(0,2)=NONE");
        says("its BALLOT no greater than the HOST's [...]: it is ACCEPTED there by what the HOST has, the BALLOT, too");
        made(FIVE, "propose(0)=1 down(4)=true recover(0,1)=1 up(4)=true known(4,0,1)=0 known(3,0,1)=1 accept(0,4)=2 "
                + "known(4,0,1)=1 known(4,0,0)=2 known(4,0,2)=1 accept(0,3)=3 known(3,0,1)=1");
        says("and it is not among its ACCEPTS");
        made(FIVE, "propose(0)=1 ask(0,1)=1 ask(0,2)=1 decide(0)=0 accept(0,0)=NONE accept(0,3)=2 accept(0,3)=NONE "
                + "command(0,6)=9 recover(0,4)=3 command(0,6)=16 accept(0,4)=NONE known(3,0,0)=2 accept(0,3)=2 "
                + "accept(0,0)=3 command(0,6)=25");
        says("accept: NONE: others");
        made(THREE, "recover(0,0)=0 accept(0,3)=NONE accept(0,-1)=NONE accept(0,MAX)=NONE accept(0,MIN)=NONE "
                + "accept(4,1)=NONE accept(-1,1)=NONE accept(MAX,1)=NONE accept(MIN,1)=NONE count(8)=1 accept(0,2)=2");
        made(THREE, "recover(0,1)=0 accept(0,32)=NONE accept(0,33)=NONE accept(0,34)=NONE accept(0,MIN)=NONE "
                + "accept(0,-32)=NONE accept(0,-30)=NONE accept(0,2)=2");
        Calls.due(new LeaderlessOrder(), "accept(0,1)=NONE accept(0,0)=NONE");
    }

    private static void settle() {
        says("SETTLE, if it is ACCEPTED at its HOST and its ACCEPTS are MOST or more: it is COMMITTED there");
        made(THREE, "settle(0)=false recover(0,1)=0 settle(0)=false accept(0,0)=2 settle(0)=true known(1,0,0)=3 "
                + "known(0,0,0)=2 settle(0)=false run(1)=1 settle(0)=false");
        made(FIVE, "propose(0)=1 ask(0,1)=1 ask(0,2)=1 settle(0)=false decide(0)=0 settle(0)=false accept(0,3)=2 "
                + "settle(0)=false accept(0,4)=3 settle(0)=true known(0,0,0)=3 known(0,0,1)=0 command(0,6)=25 "
                + "known(3,0,0)=2");
        made(FIVE, "propose(0)=1 ask(0,1)=1 ask(0,2)=1 decide(0)=0 accept(0,1)=2 accept(0,2)=3 accept(0,3)=4 "
                + "accept(0,4)=5 settle(0)=true");
        // A RECOVER takes the ACCEPTS away.
        made(FIVE, "propose(0)=1 ask(0,1)=1 ask(0,2)=1 decide(0)=0 accept(0,1)=2 accept(0,2)=3 recover(0,4)=3 "
                + "settle(0)=false accept(0,0)=2 settle(0)=false accept(0,1)=3 settle(0)=true known(4,0,0)=3 "
                + "known(0,0,0)=2");
        made(FIVE, "propose(0)=1 ask(0,1)=1 ask(0,2)=1 ask(0,3)=1 decide(0)=1 settle(0)=false");
        says("settle: false: others");
        made(THREE, "settle(4)=false settle(-1)=false settle(MAX)=false settle(MIN)=false count(8)=0");
        Calls.due(new LeaderlessOrder(), "settle(0)=false");
    }

    private static void tell() {
        says("TELL a REPLICA whose STATUS of it is less than 3");
        made(THREE, "propose(0)=1 ask(0,1)=1 decide(0)=1 tell(0,0)=false tell(0,1)=true tell(0,1)=false tell(0,2)=true "
                + "run(2)=1 tell(0,2)=false");
        made(PAIR, TORN + "up(2)=true known(1,0,0)=2 tell(0,1)=true known(1,0,0)=3 known(1,0,1)=3");
        says("if it is 3 or more at any that is up");
        made(THREE, "tell(0,1)=false propose(0)=1 ask(0,1)=1 tell(0,1)=false decide(0)=1 down(0)=true tell(0,1)=false "
                + "up(0)=true run(0)=1 tell(0,1)=true");
        made(THREE, "recover(0,1)=0 known(1,0,0)=2 tell(0,0)=false");
        says("it is COMMITTED there by what the first of these has (SEQ, DEPS)");
        made(THREE, "propose(1)=1 ask(1,0)=1 propose(0)=2 ask(0,2)=1 decide(0)=1 tell(0,1)=true known(1,0,0)=3 "
                + "known(1,0,1)=0 known(1,0,2)=2 known(1,0,3)=2");
        made(PAIR, TORN_TWICE + "tell(0,1)=true known(1,0,2)=1 known(1,0,1)=4");
        made(PAIR, TORN_TWICE + "down(0)=true tell(0,1)=true known(1,0,2)=0");
        made(PAIR, TORN_TWICE + "run(0)=1 tell(0,1)=true known(1,0,2)=1");
        made(THREE, "down(0)=true recover(0,1)=0 accept(0,2)=2 settle(0)=true known(1,0,1)=1 up(0)=true tell(0,0)=true "
                + "known(0,0,1)=0 known(0,0,0)=3 command(0,6)=6 command(0,4)=1");
        says("tell: false: others");
        made(THREE, "propose(0)=1 ask(0,1)=1 decide(0)=1 tell(0,3)=false tell(0,-1)=false tell(0,MAX)=false "
                + "tell(0,MIN)=false tell(4,1)=false tell(-1,1)=false tell(MAX,1)=false tell(MIN,1)=false count(8)=3");
        Calls.due(new LeaderlessOrder(), "tell(0,1)=false tell(0,0)=false");
    }

    private static void recoverIf() {
        says("RECOVER by a REPLICA whose STATUS of it is less than 3");
        made(THREE, "finds(0,0)=0 recover(0,0)=0 finds(0,0)=3 recover(0,0)=3 accept(0,1)=2 settle(0)=true "
                + "finds(0,0)=NONE recover(0,0)=NONE run(0)=1 finds(0,0)=NONE recover(0,0)=NONE known(0,0,1)=2");
        made(THREE, "propose(0)=1 finds(0,0)=1 recover(0,0)=1");
        made(THREE, "propose(0)=1 ask(0,1)=1 decide(0)=1 finds(0,1)=4 finds(0,2)=4 recover(0,1)=4");
        says("if MOST REPLICAS are up");
        made(THREE, "down(0)=true finds(0,1)=0 down(2)=true finds(0,1)=NONE recover(0,1)=NONE up(2)=true "
                + "recover(0,1)=0");
        made(FIVE, "down(0)=true down(1)=true finds(0,2)=0 down(3)=true finds(0,2)=NONE recover(0,2)=NONE up(0)=true "
                + "recover(0,2)=0");
        says("recover, finds: NONE: others");
        made(THREE, "recover(0,3)=NONE recover(0,-1)=NONE recover(0,MAX)=NONE recover(0,MIN)=NONE recover(4,0)=NONE "
                + "recover(-1,0)=NONE recover(MAX,0)=NONE recover(MIN,0)=NONE finds(0,3)=NONE finds(0,-1)=NONE "
                + "finds(0,MAX)=NONE finds(0,MIN)=NONE finds(4,0)=NONE finds(-1,0)=NONE finds(MAX,0)=NONE "
                + "finds(MIN,0)=NONE count(8)=0");
        Calls.due(new LeaderlessOrder(), "recover(0,0)=NONE finds(0,0)=NONE");
    }

    private static void recoverBallots() {
        says("then all these have the BALLOT that is 1 more than the greatest of theirs");
        made(FIVE, "down(4)=true recover(0,1)=0 known(0,0,1)=1 known(1,0,1)=1 known(3,0,1)=1 known(4,0,1)=0 "
                + "recover(0,1)=3 recover(0,2)=3 known(0,0,1)=3 known(2,0,1)=3 up(4)=true down(0)=true recover(0,4)=3 "
                + "known(4,0,1)=4 known(1,0,1)=4 known(0,0,1)=3 known(0,1,1)=0 known(1,1,1)=0");
        // The greatest one is neither the first one's nor the last one's.
        made(FIVE, "down(0)=true down(4)=true recover(0,2)=0 recover(0,2)=3 up(0)=true up(4)=true down(1)=true "
                + "down(3)=true known(0,0,1)=0 known(2,0,1)=2 known(4,0,1)=0 recover(0,4)=3 known(0,0,1)=3 "
                + "known(2,0,1)=3 known(4,0,1)=3 known(1,0,1)=2");
        // The greatest one is the first one's, the last one's.
        made(FIVE, "down(1)=true down(2)=true recover(0,0)=0 down(3)=true down(4)=true up(1)=true up(2)=true "
                + "known(0,0,1)=1 known(1,0,1)=0 known(2,0,1)=0 recover(0,1)=3 known(0,0,1)=2 known(1,0,1)=2 known(2,0,1)=2");
        made(FIVE, "down(1)=true down(2)=true recover(0,0)=0 down(0)=true down(3)=true up(1)=true up(2)=true "
                + "known(4,0,1)=1 known(1,0,1)=0 recover(0,1)=0 known(4,0,1)=2 known(1,0,1)=2 known(2,0,1)=2 known(0,0,1)=1");
        made(THREE, "propose(0)=1 ask(0,1)=1 decide(0)=1 recover(0,2)=4 known(0,0,1)=1 known(0,0,0)=3 known(1,0,1)=1 "
                + "known(2,0,1)=1");
    }

    private static void recoverLays() {
        says("that REPLICA is its HOST, its ANSWERS are none, its ACCEPTS that REPLICA (none, if it is COMMITTED), "
                + "which then has it so");
        made(FIVE, "propose(0)=1 ask(0,1)=1 ask(0,2)=1 decide(0)=0 accept(0,1)=2 command(0,5)=7 command(0,6)=3 "
                + "recover(0,3)=3 command(0,3)=0 command(0,4)=3 command(0,5)=0 command(0,6)=8 known(3,0,0)=2 "
                + "known(3,0,2)=1 known(0,0,0)=2 known(2,0,0)=1 known(4,0,0)=0 known(4,0,2)=0");
        made(FIVE, "propose(0)=1 ask(0,1)=1 ask(0,2)=1 decide(0)=0 accept(0,1)=2 accept(0,2)=3 settle(0)=true "
                + "recover(0,1)=4 command(0,4)=1 command(0,5)=0 command(0,6)=0 known(1,0,0)=3 known(2,0,0)=2 "
                + "known(3,0,0)=0 settle(0)=false accept(0,2)=NONE");
    }

    private static void foundFour() {
        says("FOUND 4: any has a STATUS of 3 or more: COMMITTED by what the first of these has");
        made(PAIR, TORN_TWICE + "recover(0,1)=4 known(1,0,0)=3 known(1,0,2)=1");
        made(PAIR, TORN_TWICE + "down(0)=true recover(0,1)=4 known(1,0,0)=3 known(1,0,2)=0");
        made(PAIR, TORN_TWICE + "run(0)=1 recover(0,1)=4 known(1,0,0)=3 known(1,0,2)=1");
        made(THREE, "propose(1)=1 ask(1,0)=1 propose(0)=2 ask(0,2)=1 decide(0)=1 run(0)=0 finds(0,1)=4 recover(0,1)=4 "
                + "known(1,0,0)=3 known(1,0,2)=2 known(1,0,3)=2");
        made(THREE, "propose(0)=1 ask(0,1)=1 decide(0)=1 run(0)=1 finds(0,2)=4 recover(0,2)=4 known(2,0,0)=3 "
                + "known(0,0,0)=4");
        says("what those up have of it is FOUND");
        made(THREE, "propose(0)=1 ask(0,1)=1 decide(0)=1 finds(0,2)=4 down(0)=true finds(0,2)=2");
    }

    private static void foundThree() {
        says("3: any has it ACCEPTED: ACCEPTED by what that one of these has whose BALLOT was the greatest");
        // 0 and 2 hold SEQ 1 by BALLOT 1, 1 between them holds SEQ 0 by BALLOT 2.
        String between = "propose(0)=1 recover(0,0)=1 accept(0,2)=2 down(0)=true down(2)=true recover(0,1)=0 up(0)=true "
                + "up(2)=true down(3)=true down(4)=true known(0,0,1)=1 known(1,0,1)=2 known(2,0,1)=1 known(0,0,2)=1 "
                + "known(1,0,2)=0 known(2,0,2)=1 ";
        made(FIVE, between + "recover(0,2)=3 known(2,0,0)=2 known(2,0,1)=3 known(2,0,2)=0");
        made(FIVE, between + "recover(0,0)=3 known(0,0,2)=0");
        says("of equal ones the first");
        made(PAIR, TORN + "recover(0,0)=3 known(0,0,2)=1");
        made(PAIR, TORN + "recover(0,1)=3 known(1,0,2)=1");
        says("3: any has it ACCEPTED (ahead of 2 and 1, by those up)");
        made(FIVE, "propose(1)=1 propose(0)=1 ask(0,1)=0 ask(0,2)=1 ask(0,3)=1 decide(0)=0 finds(0,4)=3 down(0)=true "
                + "finds(0,4)=2 up(0)=true recover(0,4)=3 known(4,0,2)=2 known(4,0,3)=2");
    }

    private static void foundTwo() {
        says("2: of those up that have it ASKED, but its LEADER, at least half of all REPLICAS (cut) have the same SEQ "
                + "and DEPS: ACCEPTED by these");
        made(THREE, "propose(0)=1 finds(0,2)=1 ask(0,1)=1 finds(0,2)=2 finds(0,0)=2 down(1)=true finds(0,2)=1 "
                + "up(1)=true down(0)=true recover(0,2)=2 known(2,0,0)=2 known(2,0,2)=1 known(1,0,0)=1");
        made(FIVE, "propose(0)=1 ask(0,1)=1 finds(0,4)=1 ask(0,2)=1 finds(0,4)=2 down(2)=true finds(0,4)=1 up(2)=true "
                + "down(0)=true down(3)=true finds(0,4)=2");
        made(FIVE, "propose(1)=1 propose(0)=1 ask(0,1)=0 ask(0,2)=1 finds(0,4)=1 ask(0,3)=1 recover(0,4)=2 "
                + "known(4,0,2)=1 known(4,0,3)=0");
        // The same DEPS with another SEQ are not the same, nor are other DEPS with the same SEQ.
        made(five(CHAIN), CHAIN_ASKED + "ask(2,1)=1 ask(2,2)=0 finds(2,4)=1 ask(2,3)=1 recover(2,4)=2 known(4,2,2)=2");
        made(five(SIDE), SIDE_ASKED + "ask(2,1)=0 ask(2,2)=1 finds(2,4)=1 ask(2,3)=1 recover(2,4)=2 known(4,2,3)=1");
        // The first one and the last one count, too.
        made(THREE, "propose(1)=1 finds(1,2)=1 ask(1,0)=1 finds(1,2)=2 recover(1,2)=2 known(2,1,2)=1");
        made(THREE, "propose(1)=1 ask(1,2)=1 finds(1,0)=2");
        made(FIVE, "propose(1)=1 ask(1,0)=1 finds(1,2)=1 ask(1,4)=1 finds(1,2)=2");
        says("(of two such the first one's)");
        made(FIVE, "propose(1)=1 ask(1,2)=1 propose(0)=1 ask(0,1)=0 ask(0,2)=0 ask(0,3)=1 ask(0,4)=1 recover(0,4)=2 "
                + "known(4,0,2)=2 known(4,0,3)=2");
        made(FIVE.replace("value 3 at 1", "value 3 at 3"), "propose(1)=1 ask(1,4)=1 propose(0)=1 ask(0,1)=1 ask(0,2)=1 "
                + "ask(0,3)=0 ask(0,4)=0 recover(0,3)=2 known(3,0,2)=1 known(3,0,3)=0");
        made(FIVE.replace("value 3 at 1", "value 3 at 2"), "propose(1)=1 ask(1,4)=1 propose(0)=1 ask(0,1)=1 ask(0,2)=0 "
                + "ask(0,4)=0 ask(0,3)=1 recover(0,4)=2 known(4,0,2)=1 known(4,0,3)=0");
    }

    private static void foundOne() {
        says("1: any has it ASKED: ACCEPTED, DEPS: all DEPS of these and all that it MEETS at any that is up, together");
        made(FIVE, "propose(0)=1 propose(1)=1 propose(2)=1 recover(0,3)=1 known(3,0,0)=2 known(3,0,2)=2 known(3,0,3)=6");
        made(FIVE, "propose(0)=1 propose(1)=1 propose(2)=1 down(2)=true recover(0,3)=1 known(3,0,2)=2 known(3,0,3)=2");
        made(FIVE, "propose(1)=1 propose(0)=1 ask(0,1)=0 down(0)=true down(2)=true recover(0,4)=1 known(4,0,2)=2 "
                + "known(4,0,3)=2");
        made(five(SIDE), SIDE_ASKED + "ask(2,1)=0 ask(2,2)=1 recover(2,4)=1 known(4,2,2)=2 known(4,2,3)=3");
        made(THREE, "propose(1)=1 propose(0)=1 recover(1,2)=1 known(2,1,2)=2 known(2,1,3)=1");
        made(THREE, "propose(1)=1 propose(2)=1 recover(1,0)=1 known(0,1,2)=2 known(0,1,3)=4");
        // 1 has what the LEADER had among the DEPS, and does not know of it itself.
        made(FIVE.replace("c get key 0 value 0 at 2", "c get key 0 value 0 at 0"), "propose(2)=1 propose(0)=2 ask(0,1)=1 "
                + "down(0)=true known(1,0,3)=4 known(1,2,0)=0 recover(0,3)=1 known(3,0,2)=2 known(3,0,3)=4 up(0)=true "
                + "recover(1,3)=0 known(3,1,2)=0 known(3,1,3)=0");
        says("SEQ: the greatest of their SEQS and of what it is BEHIND at any that is up");
        made(five(CHAIN), CHAIN_ASKED + "ask(2,1)=1 ask(2,2)=0 recover(2,4)=1 known(4,2,2)=3 known(4,2,3)=1");
        made(THREE, "propose(0)=1 recover(0,1)=1 known(1,0,2)=1 known(1,0,3)=0");
        // b is CLEANED: a is BEHIND nothing any more, but was asked with SEQ 2.
        made(THREE, "propose(1)=1 ask(1,0)=1 propose(0)=2 decide(1)=1 tell(1,0)=true tell(1,2)=true run(0)=1 run(1)=1 "
                + "run(2)=1 clean()=1 recover(0,1)=1 known(1,0,2)=2 known(1,0,3)=0");
    }

    private static void foundNone() {
        says("0: none: ACCEPTED, with no DEPS and SEQ 0: it is EMPTY, it does nothing when it is RUN");
        made(THREE, "propose(1)=1 finds(0,1)=0 recover(0,1)=0 known(1,0,0)=2 known(1,0,1)=1 known(1,0,2)=0 "
                + "known(1,0,3)=0 command(0,6)=2");
        made(THREE, "propose(0)=1 down(0)=true recover(0,2)=0 known(2,0,2)=0 known(0,0,2)=1");
    }

    private static void runIf() {
        says("a COMMAND that is COMMITTED there can be RUN if it and all that it leans on there (its DEPS, their DEPS, "
                + "on and on, but those RUN there) are COMMITTED there");
        // c leans on b, b on a; at 2 they are told one by one.
        String row = "propose(0)=1 ask(0,1)=1 propose(1)=2 known(1,1,3)=1 ask(1,2)=1 propose(2)=3 known(2,2,3)=2 "
                + "decide(0)=1 decide(1)=1 ask(2,1)=0 decide(2)=0 known(2,2,3)=3 accept(2,0)=2 settle(2)=true ";
        made(THREE, row + "run(2)=0 tell(1,2)=true run(2)=0 ready(2)=0 waits(2)=1 tell(0,2)=true ready(2)=7 run(2)=3 "
                + "order(2,0)=0 order(2,1)=1 order(2,2)=2 got(2,2)=8");
        made(THREE, row + "tell(0,2)=true run(2)=1 run(2)=0 tell(1,2)=true run(2)=2");
        // Of a, b, c in a row c has not a itself among its DEPS.
        String link = "replicas 3;keys 2;command a put key 0 value 1 at 0;command b put key 0 value 2 at 0;"
                + "command c put key 1 value 3 at 0;clashes low=2 and high=3;";
        made(link, "propose(0)=1 propose(1)=2 propose(2)=3 known(0,2,3)=2 ask(1,1)=1 ask(2,1)=1 decide(1)=1 decide(2)=1 "
                + "ready(0)=0 run(0)=0 waits(0)=1 ask(0,2)=1 decide(0)=1 run(0)=3");
        says("RUN by a REPLICA [...] till none can be / run: NONE: others, it is down");
        made(THREE, "run(0)=0 run(3)=NONE run(-1)=NONE run(MAX)=NONE run(MIN)=NONE count(8)=1 down(0)=true run(0)=NONE "
                + "count(8)=2");
        Calls.due(new LeaderlessOrder(), "run(0)=NONE");
        StringBuilder eight = new StringBuilder("replicas 3;keys 1;");
        StringBuilder calls = new StringBuilder();
        for (int i = 7; i >= 0; i--) {
            eight.append("command c").append((char) ('a' + i)).append(" put key 0 value ").append(i).append(" at 0;");
            calls.append("propose(" + i + ")=" + (8 - i) + " ask(" + i + ",1)=1 decide(" + i + ")=1 ");
        }
        made(eight.toString(), calls + "run(0)=8 order(0,0)=7 order(0,7)=0 order(0,8)=throws value(0,0)=7 run(0)=0");
    }

    /** b (2) and c (3) lean on one another, with SEQ 3 and 2, at 0; d, e, f are apart from them. */
    private static final String RING = "replicas 3;keys 2;command d put key 1 value 1 at 0;"
            + "command e put key 1 value 2 at 0;command b put key 0 value 3 at 1;command c put key 0 value 4 at 2;"
            + "command f put key 1 value 5 at 0;";
    private static final String RING_MADE = "propose(2)=1 propose(3)=1 ask(3,1)=0 decide(3)=0 ask(2,2)=0 decide(2)=0 "
            + "accept(3,0)=2 settle(3)=true accept(2,0)=2 settle(2)=true tell(2,0)=true tell(3,0)=true known(0,2,2)=3 "
            + "known(0,2,3)=8 known(0,3,2)=2 known(0,3,3)=4 ";

    private static String committed(int command, int seq) {
        return "propose(" + command + ")=" + seq + " ask(" + command + ",1)=1 decide(" + command + ")=1 ";
    }

    private static void runParts() {
        says("Of all PARTS that can be RUN and lean on no other PART not RUN yet the one that has the COMMAND with the "
                + "least SEQ there, of equal ones with the least number, is RUN");
        made(RING, RING_MADE + committed(0, 1) + "run(0)=3 order(0,0)=0 order(0,1)=3 order(0,2)=2");
        made(RING, RING_MADE + committed(1, 1) + "run(0)=3 " + committed(0, 2) + "run(0)=1 order(0,0)=1 order(0,1)=3 "
                + "order(0,2)=2 order(0,3)=0");
        made(RING, committed(1, 1) + "run(0)=1 " + committed(0, 2) + RING_MADE + "run(0)=3 order(0,0)=1 order(0,1)=0 "
                + "order(0,2)=3 order(0,3)=2");
        made(RING, committed(1, 1) + "run(0)=1 " + committed(4, 2) + RING_MADE + "run(0)=3 order(0,0)=1 order(0,1)=3 "
                + "order(0,2)=2 order(0,3)=4");
        made(RING, committed(1, 1) + committed(4, 2) + "run(0)=2 " + committed(0, 3) + RING_MADE + "run(0)=3 "
                + "order(0,0)=1 order(0,1)=4 order(0,2)=3 order(0,3)=2 order(0,4)=0");
        says("its COMMANDS by their SEQS there, of equal ones by their numbers");
        made(RING, RING_MADE + "part(0,2)=12 part(0,3)=12 run(0)=2 order(0,0)=3 order(0,1)=2 value(0,0)=3");
        made(THREE, "propose(1)=1 propose(2)=1 ask(1,2)=0 ask(2,1)=0 decide(1)=0 decide(2)=0 accept(1,0)=2 accept(2,0)=2 "
                + "settle(1)=true settle(2)=true tell(2,0)=true waits(0)=2 run(0)=0 tell(1,0)=true known(0,1,2)=2 "
                + "known(0,2,2)=2 run(0)=2 order(0,0)=1 order(0,1)=2 got(0,2)=3");
        says("and lean on no other PART not RUN yet");
        // c (3) has SEQ 2 and leans on b (2), which came to have SEQ 3.
        made(five(RING) + "clashes high=3 and low<3;", "propose(2)=1 ask(2,2)=1 propose(3)=2 ask(3,1)=1 ask(3,3)=1 "
                + "ask(3,4)=1 decide(3)=1 propose(0)=1 propose(1)=2 ask(2,0)=0 decide(2)=0 known(1,2,2)=3 known(1,2,3)=3 "
                + "accept(2,0)=2 accept(2,2)=3 settle(2)=true ask(0,3)=1 ask(0,4)=1 decide(0)=0 accept(0,3)=2 "
                + "accept(0,4)=3 settle(0)=true ask(1,3)=1 ask(1,4)=1 decide(1)=0 accept(1,3)=2 accept(1,4)=3 "
                + "settle(1)=true tell(0,1)=true tell(1,1)=true tell(3,1)=true known(1,3,2)=2 known(1,3,3)=4 ready(1)=15 "
                + "run(1)=4 order(1,0)=0 order(1,1)=1 order(1,2)=2 order(1,3)=3");
    }

    private static void runKinds() {
        says("put: its KEY is its value there; add: more by it, modulo 1000; get: it has GOT what the KEY is; wipe: all "
                + "KEYS are 0");
        String all = "replicas 3;keys 4;command a put key 0 value 99 at 0;command b add key 0 value 99 at 0;"
                + "command c get key 0 value 7 at 0;command d add key 3 value 1 at 0;command e get key 3 value 7 at 0;"
                + "command f wipe key 1 value 7 at 0;command g get key 3 value 0 at 0;command h put key 0 value 0 at 0;";
        LeaderlessOrder x = made(all, committed(0, 1) + committed(1, 2) + committed(2, 3) + committed(3, 1)
                + committed(4, 2) + "run(0)=5 value(0,0)=198 value(0,1)=0 value(0,2)=0 value(0,3)=1 got(0,2)=198 "
                + "got(0,4)=1 value(1,0)=0 value(2,3)=0 ");
        Calls.due(x, committed(5, 4) + "run(0)=1 value(0,0)=0 value(0,3)=0 got(0,2)=198 got(0,4)=1 got(0,5)=NONE "
                + committed(6, 5) + "got(0,6)=NONE run(0)=1 got(0,6)=0 ");
        made(all, committed(0, 1) + "run(0)=1 value(0,0)=99 " + committed(7, 2) + "run(0)=1 value(0,0)=0");
        // 8 * 99 is the most that an add can come to: 1000 is never reached.
        StringBuilder adds = new StringBuilder("replicas 3;keys 1;");
        StringBuilder calls = new StringBuilder();
        for (int i = 0; i < 8; i++) {
            adds.append("command c").append((char) ('a' + i)).append(" add key 0 value 99 at 0;");
            calls.append(committed(i, 1));
        }
        made(adds.toString(), calls + "run(0)=8 value(0,0)=792 value(1,0)=0");
    }

    private static void empty() {
        says("it is EMPTY, it does nothing when it is RUN / got: NONE: [...] it is EMPTY");
        String[] kinds = {"put", "add", "get", "wipe"};
        StringBuilder group = new StringBuilder("replicas 3;keys 2;command x put key 0 value 5 at 1;");
        StringBuilder calls = new StringBuilder("propose(0)=1 ask(0,2)=1 decide(0)=1 run(1)=1 down(0)=true ");
        for (int i = 0; i < 4; i++) {
            group.append("command c").append((char) ('a' + i)).append(' ').append(kinds[i]).append(" key 0 value 9 at 0;");
            int c = i + 1;
            calls.append("recover(" + c + ",1)=0 accept(" + c + ",2)=2 settle(" + c + ")=true ");
        }
        made(group.toString(), calls + "value(1,0)=5 ready(1)=30 run(1)=4 value(1,0)=5 value(1,1)=0 known(1,1,0)=4 "
                + "known(1,3,0)=4 got(1,3)=NONE replica(1,1)=5 replica(1,3)=31 order(1,1)=1 order(1,4)=4 up(0)=true "
                + "tell(3,0)=true run(0)=1 got(0,3)=NONE");
    }

    private static void clean() {
        says("CLEAN: each LEADER's COMMANDS, in their order, as far as all REPLICAS (down, too) have them RUN, are "
                + "CLEANED / how many are CLEANED by it");
        String group = "replicas 3;keys 4;command a put key 0 value 1 at 0;command b put key 1 value 2 at 1;"
                + "command c put key 2 value 3 at 0;command d put key 3 value 4 at 0;";
        String c = "propose(2)=1 ask(2,1)=1 decide(2)=1 tell(2,1)=true tell(2,2)=true ";
        String runs = "run(0)=1 run(1)=1 run(2)=1 ";
        LeaderlessOrder x = made(group, "clean()=0 " + c + runs + "clean()=0 count(4)=0 level(0)=0 propose(0)=1 "
                + "ask(0,1)=1 decide(0)=1 tell(0,1)=true tell(0,2)=true run(0)=1 run(1)=1 clean()=0 down(2)=true clean()=0 "
                + "up(2)=true run(2)=1 down(2)=true level(0)=2 clean()=2 count(4)=5 command(0,7)=1 command(1,7)=0 "
                + "command(2,7)=1 command(3,7)=0 clean()=0 up(2)=true count(4)=5 level(0)=2");
        Calls.due(x, "propose(3)=1 ask(3,1)=1 decide(3)=1 tell(3,1)=true tell(3,2)=true propose(1)=1 ask(1,0)=1 "
                + "decide(1)=1 tell(1,0)=true tell(1,2)=true run(0)=2 run(1)=2 run(2)=2 clean()=2 count(4)=15 clean()=0");
        // A COMMAND that another one has recovered is still its LEADER's; an EMPTY one that is RUN counts.
        made(group, c + runs + "recover(0,1)=0 accept(0,0)=2 settle(0)=true tell(0,0)=true tell(0,2)=true level(1)=0 "
                + runs + "level(0)=2 level(1)=0 clean()=2 count(4)=5");
        says("clean: how many are CLEANED by it");
        Calls.due(new LeaderlessOrder(), "clean()=0 count(4)=0");
    }

    private static void cleanDeps() {
        says("they are among no DEPS of other ones any more");
        made(THREE, "propose(0)=1 ask(0,1)=1 ask(0,2)=1 propose(1)=2 ask(1,0)=1 ask(1,2)=1 propose(2)=3 decide(0)=1 "
                + "tell(0,1)=true tell(0,2)=true run(0)=1 run(1)=1 run(2)=1 known(0,1,3)=1 known(1,1,3)=1 known(2,1,3)=1 "
                + "known(2,2,3)=3 union(1,1)=1 down(2)=true clean()=1 known(0,1,3)=0 known(1,1,3)=0 known(2,1,3)=0 "
                + "known(2,2,3)=2 known(2,2,2)=3 known(1,1,2)=2 union(1,1)=0 union(1,0)=2 decide(1)=1 known(1,1,3)=0 "
                + "known(1,1,2)=2");
        made(THREE, "propose(0)=1 ask(0,1)=1 decide(0)=1 tell(0,1)=true tell(0,2)=true run(0)=1 run(1)=1 run(2)=1 "
                + "clean()=1 propose(1)=1 ask(1,2)=1 known(2,1,3)=0 recover(1,0)=2 known(0,1,3)=0 recover(2,0)=0 "
                + "propose(2)=NONE");
    }

    private static void downAndUp() {
        says("DOWN, UP: a REPLICA that is up, is down / false: others, it is");
        made(THREE, "up(0)=false down(0)=true replica(0,0)=0 count(3)=6 down(0)=false up(0)=true replica(0,0)=1 "
                + "up(0)=false count(3)=7 count(8)=2");
        made(FIVE, "down(4)=true down(0)=true down(1)=true down(2)=true down(3)=true count(3)=0 up(4)=true count(3)=16");
        made(THREE, "down(3)=false down(4)=false down(-1)=false down(MAX)=false down(MIN)=false up(3)=false up(-1)=false "
                + "up(MAX)=false up(MIN)=false down(32)=false up(32)=false count(8)=0 count(3)=7");
        Calls.due(new LeaderlessOrder(), "down(0)=false up(0)=false count(3)=0");
    }

    private static void undo() {
        says("UNDO: all of these, the last 16, one by one / UNDO: true; false: nothing can be");
        Calls.due(new LeaderlessOrder(), "undo()=false count(8)=0 clean()=0 count(8)=1 undo()=true undo()=false");
        for (int many = 15; many <= 18; many++) {
            LeaderlessOrder x = Check.made(THREE);
            String[] was = new String[many];
            for (int i = 0; i < many; i++) {
                was[i] = Calls.all(x);
                Calls.due(x, i % 2 == 0 ? "down(" + i % 3 + ")=true" : "up(" + (i - 1) % 3 + ")=true");
            }
            Check.due("what can be undone of " + many, x.count(8), Math.min(many, 16));
            for (int i = many - 1; i >= 0; i--) {
                boolean isKept = i >= many - 16;
                Check.due("undo() of " + i, x.undo(), isKept);
                Check.due("what can be undone", x.count(8), isKept ? i - Math.max(0, many - 16) : 0);
                Check.due("all is as ahead of " + i, Calls.all(x).equals(was[Math.max(i, many - 16)]), true);
            }
        }
        // What can't be is no step, and takes no place of the 16.
        LeaderlessOrder y = Check.made(THREE);
        for (int i = 0; i < 8; i++) {
            Calls.due(y, "down(1)=true down(1)=false propose(1)=NONE up(1)=true tell(0,0)=false undo()=true up(1)=true");
        }
        Calls.due(y, "count(8)=16 down(2)=true count(8)=16 settle(0)=false decide(0)=NONE ask(0,1)=NONE recover(9,0)=NONE "
                + "accept(0,0)=NONE propose(9)=NONE tell(0,1)=false down(2)=false up(0)=false run(2)=NONE count(8)=16");
        for (int i = 0; i < 16; i++) {
            Calls.due(y, "undo()=true count(3)=" + (i % 2 == 0 ? 7 : 5));
        }
        Calls.due(y, "undo()=false count(3)=5");
    }

    private static void undoEach() {
        says("UNDO: all of these [PROPOSE, ASK, DECIDE, ACCEPT, SETTLE, TELL, RECOVER, RUN, CLEAN, DOWN, UP]");
        String[] fives = ("propose(1)=1 propose(0)=1 ask(0,1)=0 ask(0,2)=1 decide(0)=0 accept(0,3)=2 accept(0,1)=3 "
                + "settle(0)=true tell(0,4)=true recover(0,2)=4 down(3)=true up(3)=true recover(2,3)=0 run(0)=0").split(" ");
        undoAll(Check.made(FIVE), fives);
        String[] threes = ("propose(0)=1 ask(0,1)=1 decide(0)=1 tell(0,1)=true tell(0,2)=true run(0)=1 run(1)=1 run(2)=1 "
                + "propose(2)=2 clean()=1 clean()=0 ask(2,1)=1 decide(2)=1 tell(2,0)=true down(1)=true run(2)=1").split(" ");
        undoAll(Check.made(THREE), threes);
    }

    private static void undoAll(LeaderlessOrder x, String[] calls) {
        String[] was = new String[calls.length];
        for (int i = 0; i < calls.length; i++) {
            was[i] = Calls.all(x);
            Calls.due(x, calls[i]);
            Check.due("a step, " + calls[i], x.count(8), i + 1);
        }
        for (int i = calls.length - 1; i >= 0; i--) {
            Check.due("undo() of " + calls[i], x.undo(), true);
            Check.due("all as ahead of " + calls[i], Calls.all(x).equals(was[i]), true);
        }
        Check.due("undo(), nothing is left", x.undo(), false);
    }

    private static void judged() {
        says("JUDGED: the WORK from the beginning: the first line (from 0) that can't be (those are left out [...])");
        work("", "judged(0)=NONE judged(1)=NONE judged(2)=0");
        work("propose a;propose a;propose b;propose b;", "judged(0)=1");
        work("ask a 1;propose a;ask a 1;decide a;run 0;", "judged(0)=0 judged(1)=4 judged(2)=1");
        work("propose a;ask a 1;decide a;run 0;tell a 1;run 1;tell a 1;", "judged(0)=6 judged(1)=3 judged(2)=2");
        says("run, clean always can, but by one that is down");
        work("run 0;clean;run 2;clean;", "judged(0)=NONE judged(1)=NONE judged(2)=0");
        work("run 0;down 0;clean;run 0;", "judged(0)=3");
        says("the first one behind which a COMMAND is RUN anywhere; how many are RUN at last, at all REPLICAS, together");
        work("propose a;ask a 1;decide a;run 1;run 0;run 0;tell a 2;run 2;", "judged(0)=NONE judged(1)=4 judged(2)=2");
        work("propose d;ask d 1;decide d;propose a;ask a 1;decide a;run 0;tell a 1;tell d 1;run 1;",
                "judged(0)=NONE judged(1)=6 judged(2)=4");
        String last = "clean;".repeat(36) + "propose a;ask a 1;decide a;run 0;";
        work(last, "count(6)=40 judged(0)=NONE judged(1)=39 judged(2)=1");
        work("clean;".repeat(39) + "up 0;", "judged(0)=39 judged(1)=NONE");
        says("judged: what 0, 1: lines (NONE: none), 2: how many; -2: others");
        work("clean;", "judged(3)=-2 judged(-1)=-2 judged(-2)=-2 judged(MAX)=-2 judged(MIN)=-2");
        Calls.due(new LeaderlessOrder(), "judged(0)=NONE judged(1)=NONE judged(2)=0 judged(3)=-2 judged(-1)=-2");
    }

    private static void work(String text, String calls) {
        LeaderlessOrder x = Check.made(THREE);
        Check.due("work of " + text, Check.work(x, text), 0);
        String old = Calls.all(x);
        Calls.due(x, calls);
        Check.due("nothing is done by it", Calls.all(x).equals(old), true);
        Check.due("nothing can be undone", x.count(8), 0);
        // From the beginning, whatever was done by hand.
        Calls.due(x, "down(1)=true recover(0,0)=0 down(2)=true " + calls);
    }

    private static void judgedLines() {
        says("those are left out: a line that can't be changes nothing");
        work("down 1;down 1;up 1;ask a 1;propose a;ask a 0;ask a 1;accept a 2;settle a;decide a;decide a;tell b 1;"
                + "recover a 0;run 0;", "judged(0)=1 judged(1)=13 judged(2)=1");
        work("down 0;recover a 0;propose a;up 0;recover a 1;accept a 1;accept a 2;settle a;tell a 0;run 1;run 0;clean;",
                "judged(0)=1 judged(1)=9 judged(2)=2");
    }
}
