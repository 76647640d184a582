import java.util.ArrayDeque;
import java.util.ArrayList;
import java.util.Arrays;
import java.util.Collection;
import java.util.Comparator;
import java.util.Deque;
import java.util.HashMap;
import java.util.LinkedHashMap;
import java.util.List;
import java.util.Map;
import java.util.NoSuchElementException;
import java.util.Set;
import java.util.TreeSet;
import java.util.function.BiPredicate;
import java.util.function.ToIntFunction;

/** The document worked out a second time, with sets and trees of the Java library; only tests use it. */
final class NaiveOrder {
    static final Set<String> RESERVED = Set.of("replicas", "keys", "command", "key", "value", "at", "clashes",
            "propose", "ask", "decide", "accept", "settle", "tell", "down", "up", "recover", "run", "clean",
            "put", "add", "get", "wipe", "not", "and", "or");
    static final List<String> KINDS = List.of("put", "add", "get", "wipe");

    static final class Fault extends Exception {
        final int number;

        Fault(int kind, int place) {
            number = kind + 16 * place;
        }
    }

    record Token(String text, char sort, int place) { }

    record Command(String name, int kind, int key, int value, int leader) { }

    record Line(String step, int command, int replica) { }

    record Sight(int command, int other, boolean is) { }

    /** What a law is worked out of. */
    record Pair(Command a, Command b) { }

    static final class Cell {
        int status;
        int ballot;
        int seq;
        TreeSet<Integer> deps = new TreeSet<>();
        int got = -1;

        Cell copy() {
            Cell c = new Cell();
            c.status = status;
            c.ballot = ballot;
            c.seq = seq;
            c.deps = new TreeSet<>(deps);
            c.got = got;
            return c;
        }

        boolean like(Cell o) {
            return seq == o.seq && deps.equals(o.deps);
        }
    }

    static final class World {
        Cell[][] cells;
        List<List<Integer>> orders = new ArrayList<>();
        int[][] values;
        boolean[] up;
        int[] host;
        List<TreeSet<Integer>> answers = new ArrayList<>();
        List<TreeSet<Integer>> accepts = new ArrayList<>();
        TreeSet<Integer> cleaned = new TreeSet<>();

        World copy() {
            World w = new World();
            w.cells = new Cell[cells.length][];
            w.values = new int[values.length][];
            for (int r = 0; r < cells.length; r++) {
                w.cells[r] = new Cell[cells[r].length];
                for (int c = 0; c < cells[r].length; c++) {
                    w.cells[r][c] = cells[r][c].copy();
                }
                w.values[r] = values[r].clone();
                w.orders.add(new ArrayList<>(orders.get(r)));
            }
            w.up = up.clone();
            w.host = host.clone();
            answers.forEach(s -> w.answers.add(new TreeSet<>(s)));
            accepts.forEach(s -> w.accepts.add(new TreeSet<>(s)));
            w.cleaned = new TreeSet<>(cleaned);
            return w;
        }

        int runInAll() {
            return orders.stream().mapToInt(List::size).sum();
        }
    }

    record Kept(World world, List<Line> work, List<Sight> seen) { }

    final StringBuilder tape = new StringBuilder();
    int replicas;
    int keys;
    List<Command> commands = new ArrayList<>();
    ToIntFunction<Pair> law = p -> 0;
    List<Line> work = new ArrayList<>();
    List<Sight> seen = new ArrayList<>();
    World world = fresh();
    Deque<World> past = new ArrayDeque<>();
    Map<Integer, Kept> marks = new HashMap<>();

    // ---- reading ----

    private List<Token> tokens;
    private int at;

    static List<Token> cut(String text) {
        List<Token> list = new ArrayList<>();
        int i = 0;
        while (i < text.length()) {
            String rest = text.substring(i);
            String letters = rest.replaceAll("(?s)^([a-z]*).*$", "$1");
            String digits = rest.replaceAll("(?s)^([0-9]*).*$", "$1");
            if (!letters.isEmpty()) {
                list.add(new Token(letters, letters.length() <= 8 ? 'w' : 'x', i));
                i += letters.length();
            } else if (!digits.isEmpty()) {
                list.add(new Token(digits, digits.length() <= 4 ? 'n' : 'x', i));
                i += digits.length();
            } else {
                char c = rest.charAt(0);
                if (c != '\n' && c != ' ') {
                    list.add(new Token("" + c, "()<=+-*;".contains("" + c) ? 's' : 'x', i));
                }
                i++;
            }
        }
        list.add(new Token("", 'e', text.length()));
        return list;
    }

    private Token now() {
        return tokens.get(at);
    }

    private boolean stands(String text) {
        return now().text().equals(text) && (now().sort() == 'w' || now().sort() == 's');
    }

    private Fault fault(int kind) {
        return new Fault(kind, now().place());
    }

    private void must(String text) throws Fault {
        if (!stands(text)) {
            throw fault(1);
        }
        at++;
    }

    private int number(BiPredicate<Integer, Integer> fits, int limit) throws Fault {
        if (now().sort() != 'n') {
            throw fault(1);
        }
        int n = Integer.parseInt(now().text());
        if (!fits.test(n, limit)) {
            throw fault(4);
        }
        at++;
        return n;
    }

    int group() {
        tokens = cut(tape.toString());
        tape.setLength(0);
        at = 0;
        NaiveOrder draft = new NaiveOrder();
        boolean lawTold = false;
        try {
            while (now().sort() != 'e') {
                if (stands("replicas")) {
                    if (draft.replicas != 0) {
                        throw fault(3);
                    }
                    at++;
                    draft.replicas = number((n, l) -> n == 3 || n == 5, 0);
                } else if (stands("keys")) {
                    if (draft.keys != 0) {
                        throw fault(3);
                    }
                    at++;
                    draft.keys = number((n, l) -> n >= 1 && n <= 4, 0);
                } else if (stands("command")) {
                    if (draft.commands.size() == 8) {
                        throw fault(5);
                    }
                    at++;
                    draft.commands.add(readCommand(draft));
                } else if (stands("clashes")) {
                    if (lawTold) {
                        throw fault(3);
                    }
                    lawTold = true;
                    at++;
                    draft.law = readE(0);
                } else {
                    throw fault(1);
                }
                must(";");
            }
        } catch (Fault f) {
            return f.number;
        }
        replicas = draft.replicas;
        keys = draft.keys;
        commands = draft.commands;
        law = draft.law;
        work = new ArrayList<>();
        seen = new ArrayList<>();
        past.clear();
        marks.clear();
        world = fresh();
        return 0;
    }

    private Command readCommand(NaiveOrder draft) throws Fault {
        if (now().sort() != 'w' || RESERVED.contains(now().text())) {
            throw fault(1);
        }
        String name = now().text();
        for (Command c : draft.commands) {
            if (c.name().equals(name)) {
                throw fault(3);
            }
        }
        at++;
        int kind = KINDS.indexOf(now().text());
        if (now().sort() != 'w' || kind < 0) {
            throw fault(1);
        }
        at++;
        must("key");
        int key = number((n, l) -> n < l, draft.keys);
        must("value");
        int value = number((n, l) -> n <= 99, 0);
        must("at");
        int leader = number((n, l) -> n < l, draft.replicas);
        return new Command(name, kind, key, value, leader);
    }

    private ToIntFunction<Pair> readE(int depth) throws Fault {
        ToIntFunction<Pair> left = readTest(depth);
        while (stands("and") || stands("or")) {
            boolean isAnd = stands("and");
            at++;
            ToIntFunction<Pair> a = left;
            ToIntFunction<Pair> b = readTest(depth);
            left = p -> {
                boolean x = a.applyAsInt(p) != 0;
                boolean y = b.applyAsInt(p) != 0;
                return (isAnd ? x && y : x || y) ? 1 : 0;
            };
        }
        return left;
    }

    private ToIntFunction<Pair> readTest(int depth) throws Fault {
        ToIntFunction<Pair> a = readSum(depth);
        if (stands("<")) {
            at++;
            ToIntFunction<Pair> b = readSum(depth);
            return p -> a.applyAsInt(p) < b.applyAsInt(p) ? 1 : 0;
        }
        if (stands("=")) {
            at++;
            ToIntFunction<Pair> b = readSum(depth);
            return p -> a.applyAsInt(p) == b.applyAsInt(p) ? 1 : 0;
        }
        return a;
    }

    private ToIntFunction<Pair> readSum(int depth) throws Fault {
        ToIntFunction<Pair> left = readProduct(depth);
        while (stands("+") || stands("-")) {
            int sign = stands("+") ? 1 : -1;
            at++;
            ToIntFunction<Pair> a = left;
            ToIntFunction<Pair> b = readProduct(depth);
            left = p -> a.applyAsInt(p) + sign * b.applyAsInt(p);
        }
        return left;
    }

    private ToIntFunction<Pair> readProduct(int depth) throws Fault {
        ToIntFunction<Pair> left = readPart(depth);
        while (stands("*")) {
            at++;
            ToIntFunction<Pair> a = left;
            ToIntFunction<Pair> b = readPart(depth);
            left = p -> a.applyAsInt(p) * b.applyAsInt(p);
        }
        return left;
    }

    private ToIntFunction<Pair> readPart(int depth) throws Fault {
        boolean begins = now().sort() == 'n' || now().sort() == 'w'
                && List.of("low", "high", "apart", "same", "not").contains(now().text()) || stands("(");
        if (!begins) {
            throw fault(1);
        }
        if (depth == 5) {
            throw fault(5);
        }
        Token token = now();
        at++;
        if (token.sort() == 'n') {
            int n = Integer.parseInt(token.text());
            return p -> n;
        }
        switch (token.text()) {
            case "low": return p -> Math.min(p.a().value(), p.b().value());
            case "high": return p -> Math.max(p.a().value(), p.b().value());
            case "apart": return p -> Math.abs(p.a().key() - p.b().key());
            case "same": return p -> p.a().leader() == p.b().leader() ? 1 : 0;
            case "not":
                ToIntFunction<Pair> inner = readPart(depth + 1);
                return p -> inner.applyAsInt(p) == 0 ? 1 : 0;
            default:
                ToIntFunction<Pair> whole = readE(depth + 1);
                must(")");
                return whole;
        }
    }

    int work() {
        tokens = cut(tape.toString());
        tape.setLength(0);
        at = 0;
        List<Line> lines = new ArrayList<>();
        try {
            while (now().sort() != 'e') {
                String step = now().text();
                if (now().sort() != 'w' || !" propose ask decide accept settle tell down up recover run clean "
                        .contains(" " + step + " ")) {
                    throw fault(1);
                }
                if (lines.size() == 40) {
                    throw fault(5);
                }
                at++;
                int command = -1;
                int replica = -1;
                if (!" down up run clean ".contains(" " + step + " ")) {
                    if (now().sort() != 'w' || RESERVED.contains(now().text())) {
                        throw fault(1);
                    }
                    for (int c = 0; c < commands.size(); c++) {
                        if (commands.get(c).name().equals(now().text())) {
                            command = c;
                        }
                    }
                    if (command < 0) {
                        throw fault(2);
                    }
                    at++;
                }
                if (!" propose decide settle clean ".contains(" " + step + " ")) {
                    replica = number((n, l) -> n < l, replicas);
                }
                must(";");
                lines.add(new Line(step, command, replica));
            }
        } catch (Fault f) {
            return f.number;
        }
        work = lines;
        return 0;
    }

    int feed(long a, long b, long c) {
        for (long v : new long[] {a, b, c}) {
            for (int i = 7; i >= 0; i--) {
                int sign = (int) (v >>> (8 * i)) & 0xff;
                if ((sign == 10 || sign >= 32 && sign < 127) && tape.length() < 1000) {
                    tape.append((char) sign);
                }
            }
        }
        return tape.length();
    }

    // ---- steps ----

    World fresh() {
        World w = new World();
        w.cells = new Cell[replicas][commands.size()];
        w.values = new int[replicas][keys];
        w.up = new boolean[replicas];
        w.host = new int[commands.size()];
        for (int r = 0; r < replicas; r++) {
            w.up[r] = true;
            w.orders.add(new ArrayList<>());
            for (int c = 0; c < commands.size(); c++) {
                w.cells[r][c] = new Cell();
            }
        }
        for (int c = 0; c < commands.size(); c++) {
            w.host[c] = commands.get(c).leader();
            w.answers.add(new TreeSet<>());
            w.accepts.add(new TreeSet<>());
        }
        return w;
    }

    int most() {
        return replicas == 5 ? 3 : 2;
    }

    int fast() {
        return replicas == 5 ? 4 : 2;
    }

    boolean isC(int c) {
        return c >= 0 && c < commands.size();
    }

    boolean isR(int r) {
        return r >= 0 && r < replicas;
    }

    boolean clash(int c, int d) {
        if (!isC(c) || !isC(d) || c == d) {
            return false;
        }
        Command a = commands.get(c);
        Command b = commands.get(d);
        if (a.kind() == 3 || b.kind() == 3) {
            return true;
        }
        if (a.key() == b.key() && !(a.kind() == 2 && b.kind() == 2) && !(a.kind() == 1 && b.kind() == 1)) {
            return true;
        }
        return law.applyAsInt(new Pair(a, b)) != 0;
    }

    TreeSet<Integer> meets(World w, int r, int c) {
        TreeSet<Integer> s = new TreeSet<>();
        for (int d = 0; d < commands.size(); d++) {
            if (clash(c, d) && w.cells[r][d].status >= 1 && !w.cleaned.contains(d)) {
                s.add(d);
            }
        }
        return s;
    }

    int behind(World w, int r, int c) {
        return 1 + meets(w, r, c).stream().mapToInt(d -> w.cells[r][d].seq).max().orElse(0);
    }

    int leader(int c) {
        return commands.get(c).leader();
    }

    boolean askedAtLeader(World w, int c) {
        Cell l = w.cells[leader(c)][c];
        return w.up[leader(c)] && l.status == 1 && l.ballot == 0;
    }

    TreeSet<Integer> unionDeps(World w, int c) {
        TreeSet<Integer> s = new TreeSet<>();
        w.answers.get(c).forEach(r -> s.addAll(w.cells[r][c].deps));
        return s;
    }

    int unionSeq(World w, int c) {
        return w.answers.get(c).stream().mapToInt(r -> w.cells[r][c].seq).max().orElse(0);
    }

    /** -1 if it can't be. */
    int step(World w, String step, int c, int r) {
        boolean withC = !" run down up clean ".contains(" " + step + " ");
        if (withC && !isC(c)) {
            return -1;
        }
        boolean withR = !" propose decide settle clean ".contains(" " + step + " ");
        if (withR && !isR(r)) {
            return -1;
        }
        if (withR && !step.equals("up") && !w.up[r]) {
            return -1;
        }
        switch (step) {
            case "propose": {
                int l = leader(c);
                Cell cell = w.cells[l][c];
                if (!w.up[l] || cell.status != 0 || cell.ballot != 0) {
                    return -1;
                }
                cell.seq = behind(w, l, c);
                cell.deps = meets(w, l, c);
                cell.status = 1;
                w.answers.set(c, new TreeSet<>(Set.of(l)));
                return cell.seq;
            }
            case "ask": {
                Cell cell = w.cells[r][c];
                if (!askedAtLeader(w, c) || r == leader(c) || cell.status != 0 || cell.ballot != 0) {
                    return -1;
                }
                Cell from = w.cells[leader(c)][c];
                cell.seq = Math.max(from.seq, behind(w, r, c));
                cell.deps = meets(w, r, c);
                cell.deps.addAll(from.deps);
                cell.status = 1;
                w.answers.get(c).add(r);
                return cell.like(from) ? 1 : 0;
            }
            case "decide": {
                if (!askedAtLeader(w, c) || w.answers.get(c).size() < most()) {
                    return -1;
                }
                Cell cell = w.cells[leader(c)][c];
                if (w.answers.get(c).size() >= fast() && cell.seq == unionSeq(w, c)
                        && cell.deps.equals(unionDeps(w, c))) {
                    cell.status = 3;
                    return 1;
                }
                int seq = unionSeq(w, c);
                cell.deps = unionDeps(w, c);
                cell.seq = seq;
                cell.status = 2;
                w.accepts.set(c, new TreeSet<>(Set.of(leader(c))));
                return 0;
            }
            case "accept": {
                int h = w.host[c];
                Cell from = w.cells[h][c];
                Cell cell = w.cells[r][c];
                if (!w.up[h] || from.status != 2 || cell.status >= 3 || cell.ballot > from.ballot
                        || w.accepts.get(c).contains(r)) {
                    return -1;
                }
                w.cells[r][c] = from.copy();
                w.accepts.get(c).add(r);
                return w.accepts.get(c).size();
            }
            case "settle": {
                Cell from = w.cells[w.host[c]][c];
                if (!w.up[w.host[c]] || from.status != 2 || w.accepts.get(c).size() < most()) {
                    return -1;
                }
                from.status = 3;
                return 1;
            }
            case "tell": {
                if (w.cells[r][c].status >= 3) {
                    return -1;
                }
                for (int o = 0; o < replicas; o++) {
                    if (w.up[o] && w.cells[o][c].status >= 3) {
                        w.cells[r][c].status = 3;
                        w.cells[r][c].seq = w.cells[o][c].seq;
                        w.cells[r][c].deps = new TreeSet<>(w.cells[o][c].deps);
                        return 1;
                    }
                }
                return -1;
            }
            case "recover":
                return recoverIn(w, c, r);
            case "run":
                return runIn(w, r);
            case "down":
                w.up[r] = false;
                return 1;
            case "up":
                if (w.up[r]) {
                    return -1;
                }
                w.up[r] = true;
                return 1;
            default:
                return cleanIn(w);
        }
    }

    int ups(World w) {
        int n = 0;
        for (boolean u : w.up) {
            n += u ? 1 : 0;
        }
        return n;
    }

    int recoverIn(World w, int c, int r) {
        if (!w.up[r] || w.cells[r][c].status >= 3 || ups(w) < most()) {
            return -1;
        }
        List<Integer> those = new ArrayList<>();
        for (int o = 0; o < replicas; o++) {
            if (w.up[o]) {
                those.add(o);
            }
        }
        int found = 0;
        Cell so = new Cell();
        for (int o : those) {
            if (w.cells[o][c].status >= 3 && found < 4) {
                found = 4;
                so = w.cells[o][c].copy();
            }
        }
        if (found == 0) {
            int best = -1;
            for (int o : those) {
                if (w.cells[o][c].status == 2 && w.cells[o][c].ballot > best) {
                    best = w.cells[o][c].ballot;
                    found = 3;
                    so = w.cells[o][c].copy();
                }
            }
        }
        if (found == 0) {
            Map<String, List<Integer>> bySame = new LinkedHashMap<>();
            for (int o : those) {
                if (w.cells[o][c].status == 1 && o != leader(c)) {
                    bySame.computeIfAbsent(w.cells[o][c].seq + ":" + w.cells[o][c].deps, k -> new ArrayList<>())
                            .add(o);
                }
            }
            for (List<Integer> same : bySame.values()) {
                if (found == 0 && same.size() >= replicas / 2) {
                    found = 2;
                    so = w.cells[same.get(0)][c].copy();
                }
            }
        }
        if (found == 0) {
            for (int o : those) {
                if (w.cells[o][c].status == 1) {
                    found = 1;
                    so.seq = Math.max(so.seq, w.cells[o][c].seq);
                    so.deps.addAll(w.cells[o][c].deps);
                }
            }
            if (found == 1) {
                for (int o : those) {
                    so.seq = Math.max(so.seq, behind(w, o, c));
                    so.deps.addAll(meets(w, o, c));
                }
            }
        }
        int ballot = 1 + those.stream().mapToInt(o -> w.cells[o][c].ballot).max().getAsInt();
        those.forEach(o -> w.cells[o][c].ballot = ballot);
        w.host[c] = r;
        w.answers.get(c).clear();
        w.accepts.get(c).clear();
        if (found != 4) {
            w.accepts.get(c).add(r);
        }
        w.cells[r][c].status = found == 4 ? 3 : 2;
        w.cells[r][c].seq = so.seq;
        w.cells[r][c].deps = so.deps;
        return found;
    }

    /** All that a COMMAND leans on at a REPLICA, on and on, but those RUN there. */
    TreeSet<Integer> leans(World w, int r, int c) {
        TreeSet<Integer> s = new TreeSet<>();
        Deque<Integer> open = new ArrayDeque<>(List.of(c));
        while (!open.isEmpty()) {
            int x = open.pop();
            if (w.cells[r][x].status != 3) {
                continue;
            }
            for (int d : w.cells[r][x].deps) {
                if (w.cells[r][d].status != 4 && s.add(d)) {
                    open.push(d);
                }
            }
        }
        return s;
    }

    TreeSet<Integer> partOf(World w, int r, int c) {
        TreeSet<Integer> s = new TreeSet<>(Set.of(c));
        for (int d : leans(w, r, c)) {
            if (leans(w, r, d).contains(c)) {
                s.add(d);
            }
        }
        return s;
    }

    int runIn(World w, int r) {
        int n = 0;
        while (true) {
            List<TreeSet<Integer>> free = new ArrayList<>();
            for (int c = 0; c < commands.size(); c++) {
                if (w.cells[r][c].status != 3) {
                    continue;
                }
                TreeSet<Integer> lean = leans(w, r, c);
                boolean can = lean.stream().allMatch(d -> w.cells[r][d].status == 3);
                if (can && partOf(w, r, c).containsAll(lean)) {
                    free.add(partOf(w, r, c));
                }
            }
            if (free.isEmpty()) {
                return n;
            }
            Comparator<Integer> bySeq = Comparator.comparingInt((Integer c) -> w.cells[r][c].seq)
                    .thenComparingInt(c -> c);
            TreeSet<Integer> part = free.stream()
                    .min(Comparator.comparing(s -> s.stream().min(bySeq).get(), bySeq)).get();
            for (int c : part.stream().sorted(bySeq).toList()) {
                runOne(w, r, c);
                n++;
            }
        }
    }

    void runOne(World w, int r, int c) {
        Command k = commands.get(c);
        w.cells[r][c].status = 4;
        w.orders.get(r).add(c);
        if (w.cells[r][c].seq == 0) {
            return;
        }
        int[] v = w.values[r];
        switch (k.kind()) {
            case 0 -> v[k.key()] = k.value();
            case 1 -> v[k.key()] = (v[k.key()] + k.value()) % 1000;
            case 2 -> w.cells[r][c].got = v[k.key()];
            default -> Arrays.fill(v, 0);
        }
    }

    int levelIn(World w, int leader) {
        int n = 0;
        for (int c = 0; c < commands.size(); c++) {
            if (leader(c) != leader) {
                continue;
            }
            for (int r = 0; r < replicas; r++) {
                if (w.cells[r][c].status != 4) {
                    return n;
                }
            }
            n++;
        }
        return n;
    }

    int cleanIn(World w) {
        int n = 0;
        for (int l = 0; l < replicas; l++) {
            int i = 0;
            for (int c = 0; c < commands.size(); c++) {
                if (leader(c) == l && i++ < levelIn(w, l) && w.cleaned.add(c)) {
                    n++;
                }
            }
        }
        for (Cell[] row : w.cells) {
            for (Cell cell : row) {
                cell.deps.removeAll(w.cleaned);
            }
        }
        return n;
    }

    int byHand(String step, int c, int r) {
        World old = world.copy();
        int answer = step(world, step, c, r);
        if (answer != -1) {
            past.push(old);
            if (past.size() > 16) {
                past.removeLast();
            }
        }
        return answer;
    }

    // ---- questions ----

    static int bits(Collection<Integer> set) {
        int b = 0;
        for (int x : set) {
            b |= 1 << x;
        }
        return b;
    }

    boolean before(World w, int r, int c, int d) {
        if (!isR(r) || !isC(c) || !isC(d) || c == d) {
            return false;
        }
        List<Integer> o = w.orders.get(r);
        return o.contains(c) && !(o.contains(d) && o.indexOf(d) < o.indexOf(c));
    }

    boolean agree(World w, int r, int o) {
        for (int c = 0; c < commands.size(); c++) {
            for (int d = 0; d < commands.size(); d++) {
                List<Integer> x = w.orders.get(r);
                List<Integer> y = w.orders.get(o);
                if (clash(c, d) && x.contains(c) && x.contains(d) && y.contains(c) && y.contains(d)
                        && (x.indexOf(c) < x.indexOf(d)) != (y.indexOf(c) < y.indexOf(d))) {
                    return false;
                }
            }
        }
        return true;
    }

    int with(int r, int least, int most) {
        int b = 0;
        for (int c = 0; c < commands.size(); c++) {
            if (world.cells[r][c].status >= least && world.cells[r][c].status <= most) {
                b |= 1 << c;
            }
        }
        return b;
    }

    int command(int c, int what) {
        if (!isC(c) || what < 0 || what > 7) {
            return -1;
        }
        Command k = commands.get(c);
        return new int[] {k.kind(), k.key(), k.value(), k.leader(), world.host[c], bits(world.answers.get(c)),
            bits(world.accepts.get(c)), world.cleaned.contains(c) ? 1 : 0}[what];
    }

    int known(int r, int c, int what) {
        if (!isR(r) || !isC(c) || what < 0 || what > 3) {
            return -1;
        }
        Cell x = world.cells[r][c];
        return new int[] {x.status, x.ballot, x.seq, bits(x.deps)}[what];
    }

    int replica(int r, int what) {
        if (!isR(r) || what < 0 || what > 3) {
            return -1;
        }
        return new int[] {world.up[r] ? 1 : 0, world.orders.get(r).size(), with(r, 3, 3), with(r, 4, 4)}[what];
    }

    int order(int r, int i) {
        if (!isR(r) || i < 0 || i >= world.orders.get(r).size()) {
            throw new NoSuchElementException();
        }
        return world.orders.get(r).get(i);
    }

    int value(int r, int k) {
        return isR(r) && k >= 0 && k < keys ? world.values[r][k] : -1;
    }

    int got(int r, int c) {
        return isR(r) && isC(c) && world.cells[r][c].status == 4 ? world.cells[r][c].got : -1;
    }

    boolean undo() {
        if (past.isEmpty()) {
            return false;
        }
        world = past.pop();
        return true;
    }

    int judged(int what) {
        if (what < 0 || what > 2) {
            return -2;
        }
        World w = fresh();
        int bad = -1;
        int ran = -1;
        for (int i = 0; i < work.size(); i++) {
            Line l = work.get(i);
            if (step(w, l.step(), l.command(), l.replica()) == -1 && bad == -1) {
                bad = i;
            }
            if (w.runInAll() > 0 && ran == -1) {
                ran = i;
            }
        }
        return new int[] {bad, ran, w.runInAll()}[what];
    }

    int lone() {
        int b = 0;
        for (int c = 0; c < commands.size(); c++) {
            b |= Integer.bitCount(heap(c)) == 1 ? 1 << c : 0;
        }
        return b;
    }

    int heap(int c) {
        if (!isC(c)) {
            return -1;
        }
        TreeSet<Integer> s = new TreeSet<>();
        Deque<Integer> open = new ArrayDeque<>(List.of(c));
        while (!open.isEmpty()) {
            int x = open.pop();
            if (s.add(x)) {
                for (int d = 0; d < commands.size(); d++) {
                    if (clash(x, d)) {
                        open.push(d);
                    }
                }
            }
        }
        return bits(s);
    }

    int union(int c, int what) {
        if (!isC(c) || what < 0 || what > 1) {
            return -1;
        }
        return what == 0 ? unionSeq(world, c) : bits(unionDeps(world, c));
    }

    boolean quick(int c) {
        return step(world.copy(), "decide", c, -1) == 1;
    }

    int waits(int r) {
        if (!isR(r)) {
            return -1;
        }
        int b = 0;
        for (int c = 0; c < commands.size(); c++) {
            if (world.cells[r][c].status == 3) {
                for (int d : world.cells[r][c].deps) {
                    b |= world.cells[r][d].status < 3 ? 1 << d : 0;
                }
            }
        }
        return b;
    }

    List<Integer> planned(int r) {
        World w = world.copy();
        runIn(w, r);
        return w.orders.get(r).subList(world.orders.get(r).size(), w.orders.get(r).size());
    }

    int ready(int r) {
        return isR(r) ? bits(planned(r)) : -1;
    }

    int plan(int r, int i) {
        return isR(r) && i >= 0 && i < planned(r).size() ? planned(r).get(i) : -1;
    }

    int part(int r, int c) {
        return isR(r) && isC(c) && world.cells[r][c].status == 3 ? bits(partOf(world, r, c)) : -1;
    }

    boolean one(int c) {
        if (!isC(c)) {
            return false;
        }
        for (int r = 0; r < replicas; r++) {
            for (int o = 0; o < replicas; o++) {
                if (world.cells[r][c].status >= 3 && world.cells[o][c].status >= 3
                        && !world.cells[r][c].like(world.cells[o][c])) {
                    return false;
                }
            }
        }
        return true;
    }

    int bare(int r) {
        if (!isR(r)) {
            return -1;
        }
        int b = 0;
        for (int o = 0; o < replicas; o++) {
            b |= with(o, 3, 4);
        }
        return b & ~with(r, 3, 4);
    }

    int stuck() {
        if (ups(world) >= most()) {
            return 0;
        }
        int b = 0;
        for (int c = 0; c < commands.size(); c++) {
            boolean any = false;
            boolean all = true;
            for (int r = 0; r < replicas; r++) {
                any |= world.up[r] && world.cells[r][c].status >= 1;
                all &= !world.up[r] || world.cells[r][c].status >= 3;
            }
            b |= any && !all ? 1 << c : 0;
        }
        return b;
    }

    int finds(int c, int r) {
        return isC(c) && isR(r) ? recoverIn(world.copy(), c, r) : -1;
    }

    int risk(int c) {
        if (!isC(c)) {
            return -1;
        }
        Cell first = null;
        for (int r = replicas - 1; r >= 0; r--) {
            if (world.cells[r][c].status >= 3) {
                first = world.cells[r][c];
            }
        }
        if (first == null) {
            return -1;
        }
        int n = 0;
        for (int a = 0; a < replicas; a++) {
            for (int b = replicas == 3 ? a : a + 1; b < (replicas == 3 ? a + 1 : replicas); b++) {
                World w = world.copy();
                Arrays.fill(w.up, true);
                w.up[a] = false;
                w.up[b] = false;
                for (int r = 0; r < replicas; r++) {
                    if (w.up[r] && w.cells[r][c].status < 3) {
                        recoverIn(w, c, r);
                        n += w.cells[r][c].like(first) ? 0 : 1;
                        break;
                    }
                }
            }
        }
        return n;
    }

    boolean see(int c, int d, boolean is) {
        if (!isC(c) || !isC(d) || c == d || seen.size() == 8) {
            return false;
        }
        seen.add(new Sight(c, d, is));
        return true;
    }

    int who() {
        int b = 0;
        for (int r = 0; r < replicas; r++) {
            int x = r;
            b |= seen.stream().allMatch(s -> before(world, x, s.command(), s.other()) == s.is()) ? 1 << r : 0;
        }
        return b;
    }

    int look() {
        int all = Integer.bitCount(who());
        int best = -1;
        int least = all;
        for (int c = 0; c < commands.size(); c++) {
            for (int d = 0; d < commands.size(); d++) {
                if (c == d) {
                    continue;
                }
                int yes = 0;
                for (int r = 0; r < replicas; r++) {
                    yes += (who() >> r & 1) == 1 && before(world, r, c, d) ? 1 : 0;
                }
                if (Math.max(yes, all - yes) < least) {
                    least = Math.max(yes, all - yes);
                    best = 8 * c + d;
                }
            }
        }
        return best;
    }

    private int g;

    private int draw(int m) {
        g = (g * 1103515245 + 12345) & Integer.MAX_VALUE;
        return (g >> 16) % m;
    }

    int drives(int seed, int many, int what) {
        if (seed < 0 || seed > 9999 || many < 1 || many > 99 || what < 0 || what > 2) {
            return -1;
        }
        World w = world.copy();
        g = seed;
        int could = 0;
        List<String> steps = List.of("propose", "ask", "decide", "accept", "settle", "tell", "recover", "run");
        for (int i = 0; i < many && replicas > 0 && !commands.isEmpty(); i++) {
            int s = draw(9);
            int c = draw(commands.size());
            int r = draw(replicas);
            String step = s < 8 ? steps.get(s) : w.up[r] ? "down" : "up";
            could += step(w, step, c, r) == -1 ? 0 : 1;
        }
        int pairs = 0;
        for (int r = 0; r < replicas; r++) {
            for (int o = 0; o < r; o++) {
                pairs += agree(w, r, o) ? 0 : 1;
            }
        }
        return new int[] {could, w.runInAll(), pairs}[what];
    }

    boolean mark(int m, boolean back) {
        if (m < 0 || m > 3 || back && !marks.containsKey(m)) {
            return false;
        }
        if (!back) {
            marks.put(m, new Kept(world.copy(), new ArrayList<>(work), new ArrayList<>(seen)));
            return true;
        }
        Kept k = marks.get(m);
        world = k.world().copy();
        work = new ArrayList<>(k.work());
        seen = new ArrayList<>(k.seen());
        past.clear();
        return true;
    }

    int count(int what) {
        int ups = 0;
        for (int r = 0; r < replicas; r++) {
            ups |= world.up[r] ? 1 << r : 0;
        }
        return what < 0 || what > 9 ? -1 : new int[] {replicas, keys, commands.size(), ups, bits(world.cleaned),
            world.runInAll(), work.size(), seen.size(), past.size(), tape.length()}[what];
    }
}
