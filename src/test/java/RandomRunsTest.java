import java.util.ArrayList;
import java.util.List;
import java.util.NoSuchElementException;
import java.util.Random;

/** Runs of drawn calls, each answered by LeaderlessOrder and by NaiveOrder; the seeds are fixed. */
public final class RandomRunsTest {
    private static final String[] STEPS = {"propose", "ask", "decide", "accept", "settle", "tell", "recover", "run",
        "down", "up", "clean"};
    private static final int[] ODD = {-1, -2, 3, 5, 8, 9, 10, 31, 32, 64, 100, Integer.MIN_VALUE, Integer.MAX_VALUE};

    private final Random random;
    private final LeaderlessOrder x = new LeaderlessOrder();
    private final NaiveOrder y = new NaiveOrder();
    private final List<String> log = new ArrayList<>();
    private final int losses;
    private final int recoveries;
    private final int others;
    private int wrong;

    private RandomRunsTest(long seed) {
        random = new Random(seed);
        losses = new int[] {0, 3, 10, 40}[random.nextInt(4)];
        recoveries = new int[] {0, 2, 5, 30, 100}[random.nextInt(5)];
        others = new int[] {3, 10, 30}[random.nextInt(3)];
    }

    public static void main(String[] args) {
        int many = args.length > 0 ? Integer.parseInt(args[0]) : 400;
        long from = args.length > 1 ? Long.parseLong(args[1]) : 1;
        for (long seed = from; seed < from + many; seed++) {
            RandomRunsTest run = new RandomRunsTest(seed);
            run.go();
            Check.due("run of seed " + seed + ", wrong answers", run.wrong, 0);
            if (run.wrong > 0) {
                run.log.forEach(System.out::println);
                break;
            }
        }
        Check.end("RandomRunsTest");
    }

    private void same(String call, long got, long want) {
        log.add(call + " -> " + got);
        if (got != want && wrong++ < 5) {
            System.out.println(call + " answered " + got + ", the plain one " + want);
        }
    }

    private void same(String call, boolean got, boolean want) {
        same(call, got ? 1 : 0, want ? 1 : 0);
    }

    private int below(int n) {
        return random.nextInt(Math.max(n, 1));
    }

    private boolean chance(int percent) {
        return random.nextInt(100) < percent;
    }

    private int near(int n) {
        return chance(4) ? ODD[below(ODD.length)] : below(n);
    }

    private int aCommand() {
        return near(y.commands.size());
    }

    private int aReplica() {
        return near(y.replicas);
    }

    private void go() {
        if (chance(10)) {
            sweep();
        }
        readGroup();
        int calls = 40 + below(300);
        for (int i = 0; i < calls && wrong == 0; i++) {
            if (chance(others)) {
                another();
            } else {
                stepByHand();
            }
            if (chance(8)) {
                sweep();
            }
        }
        sweep();
    }

    // ---- texts ----

    private String blank() {
        return chance(90) ? "" : chance(50) ? " " : chance(50) ? "\n" : "  \n";
    }

    private String joined(String... tokens) {
        StringBuilder s = new StringBuilder();
        for (String t : tokens) {
            boolean glued = s.length() > 0 && Character.isLetter(s.charAt(s.length() - 1))
                    && Character.isLetter(t.charAt(0));
            s.append(glued ? " " : chance(20) && Character.isLetterOrDigit(t.charAt(0)) ? " " : "").append(blank());
            s.append(t);
        }
        return s.toString();
    }

    private String number(int n) {
        return chance(95) ? "" + n : String.format("%0" + (1 + below(4)) + "d", n);
    }

    private String name(int i) {
        return new String[] {"low", "b", "same", "abcdefgh", "x", "apart", "zz", "runs"}[i & 7];
    }

    private String law(int depth) {
        String e = test(depth);
        while (chance(30)) {
            e = joined(e, chance(50) ? "and" : "or", test(depth));
        }
        return e;
    }

    private String test(int depth) {
        return chance(50) ? sum(depth) : joined(sum(depth), chance(50) ? "<" : "=", sum(depth));
    }

    private String sum(int depth) {
        String s = product(depth);
        while (chance(25)) {
            s = joined(s, chance(50) ? "+" : "-", product(depth));
        }
        return s;
    }

    private String product(int depth) {
        String s = part(depth);
        while (chance(15)) {
            s = joined(s, "*", part(depth));
        }
        return s;
    }

    private String part(int depth) {
        int limit = chance(97) ? 4 : 6;
        if (depth < limit && chance(30)) {
            return chance(40) ? joined("not", part(depth + 1)) : joined("(", law(depth + 1), ")");
        }
        return chance(30) ? number(chance(80) ? below(60) : below(10000))
                : new String[] {"low", "high", "apart", "same"}[below(4)];
    }

    private String groupText() {
        int replicas = chance(50) ? 3 : 5;
        int keys = 1 + below(4);
        List<String> s = new ArrayList<>();
        s.add(joined("keys", number(keys), ";"));
        s.add(below(s.size() + 1), joined("replicas", number(replicas), ";"));
        int commands = chance(20) ? 1 + below(2) : chance(20) ? below(9) : 3 + below(6);
        int keyed = chance(50) ? keys : 1;
        for (int i = 0; i < commands + (chance(2) ? 1 : 0); i++) {
            int kind = chance(6) ? 3 : below(3);
            s.add(joined("command", name(i), NaiveOrder.KINDS.get(kind), "key", number(below(keyed)), "value",
                    number(below(100)), "at", number(below(replicas)), ";"));
        }
        if (chance(50)) {
            s.add(below(s.size() + 1), joined("clashes", law(0), ";"));
        }
        return String.join("", s) + blank();
    }

    private String workText() {
        StringBuilder s = new StringBuilder();
        int lines = chance(5) ? 38 + below(5) : below(30);
        for (int i = 0; i < lines; i++) {
            String step = STEPS[below(STEPS.length)];
            String n = y.commands.isEmpty() || chance(1) ? "nobody" : y.commands.get(below(y.commands.size())).name();
            String r = number(below(chance(99) ? y.replicas : 7));
            switch (step) {
                case "propose", "decide", "settle" -> s.append(joined(step, n, ";"));
                case "run", "down", "up" -> s.append(joined(step, r, ";"));
                case "clean" -> s.append(joined(step, ";"));
                default -> s.append(joined(step, n, r, ";"));
            }
        }
        return s.toString();
    }

    private String spoilt(String text) {
        String signs = "abz019 ();<=+-*;,A_\n~";
        String[] words = {" not ", " and ", " or ", " key ", " run ", "12345", " abcdefghi ", " replicas ", ";keys 2;",
            " command ", "clashes 1;", "clean;", "((((((", " not not not not not ", " low ", "99", "100", " put "};
        StringBuilder s = new StringBuilder(text);
        int at = below(s.length() + 1);
        switch (below(7)) {
            case 5 -> s.append(words[below(words.length)]);
            case 6 -> {
                String[] lines = text.split("(?<=;)");
                s.append(lines[below(lines.length)]);
            }
            case 0 -> s.insert(at, signs.charAt(below(signs.length())));
            case 1 -> s.insert(at, words[below(words.length)]);
            case 2 -> s.setLength(at);
            case 3 -> s.delete(at, Math.min(s.length(), at + 1 + below(4)));
            default -> s.replace(at, Math.min(s.length(), at + 1), "" + signs.charAt(below(signs.length())));
        }
        return s.toString();
    }

    /** A text as the language has it, then words and signs of it in no order, maybe beyond the TAPE. */
    private String soup() {
        String[] tokens = ("replicas keys command key value at clashes propose ask decide accept settle tell down up "
                + "recover run clean put add get wipe not and or low high apart same a b 0 1 2 3 5 99 ( ) < = + - * ;")
                .split(" ");
        StringBuilder s = new StringBuilder(chance(50) ? "clashes " : chance(50) ? groupText() : workText());
        for (int i = below(chance(80) ? 12 : 400); i > 0; i--) {
            s.append(tokens[below(tokens.length)]).append(chance(80) ? " " : "");
        }
        return s.toString();
    }

    private void feed(String text) {
        for (int i = 0; i < text.length(); i += 24) {
            long a = Check.eight(text, i);
            long b = Check.eight(text, i + 8);
            long c = Check.eight(text, i + 16);
            same("feed " + text.substring(i, Math.min(i + 24, text.length())), x.feed(a, b, c), y.feed(a, b, c));
        }
    }

    private void readGroup() {
        String text = groupText();
        for (int i = 0; i < 8 && chance(40); i++) {
            feed(spoilt(text));
            same("group", x.group(), y.group());
        }
        for (int i = 0; i < 10 && chance(50); i++) {
            feed(soup());
            same("group", x.group(), y.group());
            feed(soup());
            same("work", x.work(), y.work());
        }
        if (chance(5)) {
            long a = random.nextLong();
            same("feed", x.feed(a, -1, 0), y.feed(a, -1, 0));
            same("group", x.group(), y.group());
        }
        feed(text);
        same("group", x.group(), y.group());
    }

    private void readWork() {
        String text = workText();
        feed(chance(30) ? spoilt(text) : text);
        same("work", x.work(), y.work());
    }

    // ---- steps ----

    private void stepByHand() {
        String step = aStep();
        int c = aCommand();
        int r = aReplica();
        // Mostly a step that can be, so that runs get far.
        for (int i = 0; i < 40 && !chance(5) && y.step(y.world.copy(), step, c, r) == -1; i++) {
            step = aStep();
            c = aCommand();
            r = aReplica();
        }
        step(step, c, r);
    }

    /** A step, by the temper of this run: some have no losses, some many. */
    private String aStep() {
        while (true) {
            String step = STEPS[below(STEPS.length)];
            int percent = switch (step) {
                case "clean", "run" -> 10;
                case "down" -> losses;
                case "up" -> 60;
                case "recover" -> recoveries;
                default -> 100;
            };
            if (chance(percent)) {
                return step;
            }
        }
    }

    private void step(String step, int c, int r) {
        int want = y.byHand(step, c, r);
        String call = step + " " + c + " " + r;
        switch (step) {
            case "propose" -> same(call, x.propose(c), want);
            case "ask" -> same(call, x.ask(c, r), want);
            case "decide" -> same(call, x.decide(c), want);
            case "accept" -> same(call, x.accept(c, r), want);
            case "settle" -> same(call, x.settle(c), want != -1);
            case "tell" -> same(call, x.tell(c, r), want != -1);
            case "recover" -> same(call, x.recover(c, r), want);
            case "run" -> same(call, x.run(r), want);
            case "down" -> same(call, x.down(r), want != -1);
            case "up" -> same(call, x.up(r), want != -1);
            default -> same(call, x.clean(), want);
        }
    }

    private void another() {
        switch (below(8)) {
            case 0 -> same("undo", x.undo(), y.undo());
            case 1 -> {
                for (int i = chance(70) ? 0 : below(20); i > 0; i--) {
                    same("undo", x.undo(), y.undo());
                }
            }
            case 2, 3 -> {
                int m = near(4);
                boolean back = chance(30);
                same("mark " + m + " " + back, x.mark(m, back), y.mark(m, back));
            }
            case 4, 5 -> {
                int c = aCommand();
                int d = aCommand();
                boolean is = chance(60);
                same("see " + c + " " + d + " " + is, x.see(c, d, is), y.see(c, d, is));
            }
            case 6 -> readWork();
            default -> {
                if (chance(10)) {
                    readGroup();
                } else {
                    drive();
                }
            }
        }
    }

    private void drive() {
        int seed = chance(95) ? below(10000) : 9999 + below(3);
        int many = chance(95) ? 1 + below(99) : 98 + below(4);
        for (int what = -1; what <= 3; what++) {
            same("drives " + seed + " " + many + " " + what, x.drives(seed, many, what), y.drives(seed, many, what));
        }
    }

    // ---- all questions ----

    private void sweep() {
        for (int what = -1; what <= 10; what++) {
            same("count " + what, x.count(what), y.count(what));
        }
        for (int what = -1; what <= 3; what++) {
            same("judged " + what, x.judged(what), y.judged(what));
        }
        same("lone", x.lone(), y.lone());
        same("stuck", x.stuck(), y.stuck());
        same("who", x.who(), y.who());
        same("look", x.look(), y.look());
        for (int c = -1; c <= y.commands.size(); c++) {
            sweepCommand(c);
        }
        for (int r = -1; r <= y.replicas; r++) {
            sweepReplica(r);
        }
    }

    private void sweepCommand(int c) {
        for (int what = -1; what <= 8; what++) {
            same("command " + c + " " + what, x.command(c, what), y.command(c, what));
        }
        for (int d = -1; d <= y.commands.size(); d++) {
            same("clash " + c + " " + d, x.clash(c, d), y.clash(c, d));
        }
        same("heap " + c, x.heap(c), y.heap(c));
        for (int what = -1; what <= 2; what++) {
            same("union " + c + " " + what, x.union(c, what), y.union(c, what));
        }
        same("quick " + c, x.quick(c), y.quick(c));
        same("one " + c, x.one(c), y.one(c));
        same("risk " + c, x.risk(c), y.risk(c));
    }

    private void sweepReplica(int r) {
        for (int what = -1; what <= 4; what++) {
            same("replica " + r + " " + what, x.replica(r, what), y.replica(r, what));
        }
        for (int i = -1; i <= 8; i++) {
            same("order " + r + " " + i, orderOf(r, i, true), orderOf(r, i, false));
            same("plan " + r + " " + i, x.plan(r, i), y.plan(r, i));
        }
        for (int k = -1; k <= y.keys; k++) {
            same("value " + r + " " + k, x.value(r, k), y.value(r, k));
        }
        for (int o = -1; o <= y.replicas; o++) {
            boolean want = y.isR(r) && y.isR(o) && y.agree(y.world, r, o);
            same("agree " + r + " " + o, x.agree(r, o), want);
        }
        same("waits " + r, x.waits(r), y.waits(r));
        same("ready " + r, x.ready(r), y.ready(r));
        same("bare " + r, x.bare(r), y.bare(r));
        same("level " + r, x.level(r), y.isR(r) ? y.levelIn(y.world, r) : -1);
        for (int c = -1; c <= y.commands.size(); c++) {
            sweepCell(r, c);
        }
    }

    private void sweepCell(int r, int c) {
        for (int what = -1; what <= 4; what++) {
            same("known " + r + " " + c + " " + what, x.known(r, c, what), y.known(r, c, what));
        }
        same("got " + r + " " + c, x.got(r, c), y.got(r, c));
        same("part " + r + " " + c, x.part(r, c), y.part(r, c));
        same("finds " + c + " " + r, x.finds(c, r), y.finds(c, r));
        for (int d = -1; d <= y.commands.size(); d++) {
            same("before " + r + " " + c + " " + d, x.before(r, c, d), y.before(y.world, r, c, d));
        }
    }

    private int orderOf(int r, int i, boolean first) {
        try {
            return first ? x.order(r, i) : y.order(r, i);
        } catch (NoSuchElementException e) {
            return -99;
        }
    }
}
