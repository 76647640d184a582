import java.util.ArrayList;
import java.util.List;

/** The boundary cases that the document's first part of "Terms" and promises 1 to 4 name, sentence by sentence. */
public final class ReadingEdgeTest {
    private static final String[] RESERVED = ("replicas keys command key value at clashes propose ask decide accept "
            + "settle tell down up recover run clean put add get wipe not and or").split(" ");
    private static final String[] STEPS = "propose ask decide accept settle tell down up recover run clean".split(" ");
    /** Two that CLASH by the law alone: low 10, high 30, apart 3, same 0. */
    private static final String TWO = "replicas 3;keys 4;command a get key 0 value 30 at 0;"
            + "command b get key 3 value 10 at 1;";
    private static final String ONE = "replicas 3;keys 1;command a put key 0 value 0 at 0;";

    private ReadingEdgeTest() { }

    public static void main(String[] args) {
        calls();
        tapeRoom();
        tapeSigns();
        tapeTaken();
        feedOrder();
        tokens();
        wordsAndNumbers();
        signs();
        replicas();
        keys();
        commands();
        eachToken();
        once();
        workLines();
        workRoom();
        names();
        lawForm();
        lawNest();
        lawFacts();
        lawWorth();
        theEnd();
        theFirstWrong();
        theLeastWrong();
        groupFromThenOn();
        groupRefused();
        workIsTheWork();
        Check.end("ReadingEdgeTest");
    }

    private static void says(String words) {
        Check.says(words);
    }

    private static void due(String call, long got, long want) {
        Check.due(call, got, want);
    }

    /** A text that is a GROUP. */
    private static LeaderlessOrder good(String text) {
        return Check.made(text);
    }

    /** A text that is none, its FAULT where the @ is. */
    private static void bad(int kind, String marked) {
        LeaderlessOrder x = new LeaderlessOrder();
        int want = kind + 16 * marked.indexOf('@');
        due("group of " + marked, Check.group(x, marked.replaceFirst("@", "")), want);
    }

    private static void goodWork(String group, String text, int lines) {
        LeaderlessOrder x = Check.made(group);
        due("work of " + text, Check.work(x, text), 0);
        due("lines of " + text, x.count(6), lines);
    }

    private static void badWork(String group, int kind, String marked) {
        LeaderlessOrder x = Check.made(group);
        int want = kind + 16 * marked.indexOf('@');
        due("work of " + marked, Check.work(x, marked.replaceFirst("@", "")), want);
    }

    private static void clash(String law, boolean want) {
        Check.due("clash by " + law, good(TWO + "clashes " + law + ";").clash(0, 1), want);
    }

    private static String eight() {
        StringBuilder s = new StringBuilder("replicas 3;keys 1;");
        for (int i = 0; i < 8; i++) {
            s.append("command ").append((char) ('a' + i)).append(" put key 0 value ").append(90 + i).append(" at 0;");
        }
        return s.toString();
    }

    private static void calls() {
        says("An object is used for at most 512 calls after it has been made");
        LeaderlessOrder x = new LeaderlessOrder();
        long blanks = 0x2020202020202020L;
        int made = 0;
        for (; made < 250; made++) {
            due("feed, call " + made, x.feed(blanks, 0, 0), Math.min(1000, 8 * (made + 1)));
        }
        due("group, call " + made, x.group(), 0);
        made++;
        due("feed", x.feed(Check.eight("replicas", 0), Check.eight(" 3;", 0), 0), 11);
        due("group", x.group(), 0);
        for (made += 2; made < 511; made++) {
            boolean isDown = x.count(3) == 6;
            made++;
            Check.due("down or up, call " + made, isDown ? x.up(0) : x.down(0), true);
        }
        due("the last call", x.count(3), 6);
    }

    // ---- the TAPE ----

    private static void tapeRoom() {
        says("The TAPE has at most 1,000 signs / what is beyond 1,000, are left out: how many there are");
        for (int many : new int[] {0, 1, 23, 24, 25, 999, 1000, 1001, 1023, 1024}) {
            LeaderlessOrder x = new LeaderlessOrder();
            Check.feed(x, "x".repeat(many));
            due("signs of " + many, x.count(9), Math.min(many, 1000));
            due("feed of one more", x.feed(0x78, 0, 0), Math.min(many + 1, 1000));
            due("feed of 24 more", x.feed(Check.eight("xxxxxxxx", 0), Check.eight("xxxxxxxx", 0),
                    Check.eight("xxxxxxxx", 0)), Math.min(many + 25, 1000));
        }
        LeaderlessOrder y = new LeaderlessOrder();
        due("1,000 signs, more behind", Check.group(y, "keys 2" + " ".repeat(993) + ";" + "xyz"), 0);
        due("count(1)", y.count(1), 2);
        due("the last sign is the 1,001st", Check.group(y, "keys 2" + " ".repeat(994) + ";"), 1 + 16 * 1000);
        due("1,000 tokens", Check.group(y, ";".repeat(1000)), 1);
        due("1,000 tokens, a FAULT at the last", Check.group(y, "clashes 1" + "+1".repeat(495) + "+"), 1 + 16 * 1000);
        due("a law of 992 tokens", Check.group(y, "clashes 1" + "+1".repeat(495) + ";"), 0);
        due("a law of 992 tokens, nested", Check.group(y, "clashes ((((" + "1".repeat(4) + "+0".repeat(490) + "))))"),
                1 + 16 * 1000);
        due("a group of its own", Check.group(y, "keys 2;"), 0);
        due("a work of 1,000 signs", Check.work(y, "clean" + "\n".repeat(994) + ";;;"), 0);
        due("a work, its last sign beyond", Check.work(y, "clean" + "\n".repeat(995) + ";"), 1 + 16 * 1000);
    }

    private static void tapeSigns() {
        says("others than 10 and 32 .. 126 [...] are left out");
        for (int sign = 0; sign < 256; sign++) {
            boolean isOne = sign == 10 || sign >= 32 && sign <= 126;
            for (int shift = 0; shift < 64; shift += 8) {
                LeaderlessOrder x = new LeaderlessOrder();
                long bytes = (long) sign << shift;
                due("feed of " + sign + " by a", x.feed(bytes, 0, 0), isOne ? 1 : 0);
                due("feed of " + sign + " by b", x.feed(0, bytes, 0), isOne ? 2 : 0);
                due("feed of " + sign + " by c", x.feed(0, 0, bytes), isOne ? 3 : 0);
            }
        }
        LeaderlessOrder x = new LeaderlessOrder();
        due("feed of 255s", x.feed(-1, -1, -1), 0);
        due("feed of the least and the greatest", x.feed(Long.MIN_VALUE, Long.MAX_VALUE, 0), 0);
        due("feed of keys, others between", x.feed(0x6B00_65FF_7980_737FL, 0x2009_3100_0000_3B1FL, 0), 7);
        due("group of keys 1;", x.group(), 0);
        due("count(1)", x.count(1), 1);
    }

    private static void tapeTaken() {
        says("what reads it takes it: it is empty then");
        LeaderlessOrder x = new LeaderlessOrder();
        due("group", Check.group(x, "keys 2;"), 0);
        due("signs behind a group", x.count(9), 0);
        due("group with a FAULT", Check.group(x, "keys 9;"), 4 + 16 * 5);
        due("signs behind its FAULT", x.count(9), 0);
        due("feed begins anew", x.feed(0x6B, 0, 0), 1);
        due("work with a FAULT", x.work(), 1);
        due("signs behind its FAULT", x.count(9), 0);
        due("work", Check.work(x, "clean;"), 0);
        due("signs behind a work", x.count(9), 0);
        due("the group stays till here", x.count(1), 2);
        due("group of what is empty", x.group(), 0);
        due("it is a GROUP, too", x.count(1), 0);
        due("work of what is empty", x.work(), 0);
        // Nothing of an older, longer text stands behind a later one.
        String[][] rows = {{"keys 11;", "keys 1", "1", "6"}, {"keys 4444;", "keys 4", "1", "6"},
            {"keyss;", "keys", "1", "4"}, {"replicas 3;", "rep", "1", "0"}, {"replicas 4;", "replicas keys;", "1", "9"},
            {"clashes 1;", "clashes", "1", "7"}, {"keys 1;keys 1;", "keys 1", "1", "6"}};
        for (String[] row : rows) {
            LeaderlessOrder y = new LeaderlessOrder();
            Check.group(y, row[0]);
            due("group of " + row[1] + " behind " + row[0], Check.group(y, row[1]),
                    Integer.parseInt(row[2]) + 16 * Integer.parseInt(row[3]));
        }
    }

    private static void feedOrder() {
        says("Up to 24 signs come behind the TAPE: the bytes of a, b, c, of each the highest first");
        String text = "replicas 5;\nkeys 4 ;    ";
        LeaderlessOrder x = new LeaderlessOrder();
        due("feed", x.feed(Check.eight(text, 0), Check.eight(text, 8), Check.eight(text, 16)), 24);
        due("group", x.group(), 0);
        due("count(0)", x.count(0), 5);
        due("count(1)", x.count(1), 4);
        due("feed of a word by halves", x.feed(Check.eight("rep", 0), 0, 0), 3);
        due("what comes behind it", x.feed(0, Check.eight("licas", 0), Check.eight(" 3;", 0)), 11);
        due("group", x.group(), 0);
        due("count(0)", x.count(0), 3);
    }

    // ---- TOKENS ----

    private static void tokens() {
        says("TOKENS, each as long as can be, blanks (10, 32) between where one likes");
        bad(4, "keys @12;");
        bad(1, "keys 1 @2;");
        bad(1, "@key s 1;");
        bad(1, "@keyss 1;");
        bad(1, "@commanda put key 0 value 0 at 0;");
        bad(1, "replicas 3;keys 1;command a @putkey 0 value 0 at 0;");
        bad(1, "clashes @notlow;");
        bad(1, "clashes 1 @andnot 0;");
        due("no blanks", good("replicas5;keys4;command a put key3value99at4;clashes0;").command(0, 3), 4);
        due("blanks", good(" \nreplicas \n 5\n;\n\nkeys  4 ; command\na\nput\nkey\n3\nvalue\n99\nat\n4\n;\n"
                + "clashes\n(\n0 )\n;\n ").command(0, 3), 4);
        goodWork(ONE, "\n propose\na\n;ask  a 1 ;run0;clean\n;\n", 4);
    }

    private static void wordsAndNumbers() {
        says("WORDS (letters a .. z, 8 at most), NUMBERS (1 to 4 digits; a letter may stand right behind)");
        good("replicas 3;keys 1;command abcdefgh put key 0 value 0 at 0;command z put key 0 value 0 at 0;");
        bad(1, "replicas 3;keys 1;command @abcdefghi put key 0 value 0 at 0;");
        bad(1, "replicas 3;keys 1;command @abcdefghabcdefgh put key 0 value 0 at 0;");
        for (char c : "`{@[AZ_".toCharArray()) {
            bad(1, "replicas 3;keys 1;command ?" + c + "b put key 0 value 0 at 0;", '?');
            bad(1, "replicas 3;keys 1;command b?" + c + " put key 0 value 0 at 0;", '?');
        }
        for (char c : "/:".toCharArray()) {
            bad(1, "keys @" + c + "1;");
            bad(1, "keys 1@" + c + ";");
        }
        due("four digits", good("keys 0004;").count(1), 4);
        due("three digits", good("keys 004;").count(1), 4);
        bad(1, "keys @00004;");
        bad(1, "keys @00000000000000000004;");
        bad(4, "keys @9999;");
        bad(1, "keys @10000;");
        bad(1, "replicas @00004;");
        bad(1, "replicas @00003;");
        bad(1, "keys @4294967297;");
        due("a letter right behind", good("replicas 3;keys 2;command a put key 1value 7at 2;").command(0, 2), 7);
        clash("1and 1", true);
        says("All else (a longer WORD or NUMBER, too, at its first sign) is none");
        bad(1, "keys 1;  @abcdefghij");
        bad(1, "clashes 1+@12345;");
        badWork(ONE, 1, "propose @abcdefghi;");
        badWork(ONE, 1, "run @00000;");
    }

    private static void bad(int kind, String marked, char mark) {
        LeaderlessOrder x = new LeaderlessOrder();
        int want = kind + 16 * marked.indexOf(mark);
        due("group of " + marked, Check.group(x, marked.replaceFirst("\\" + mark, "")), want);
    }

    private static void signs() {
        says("the signs ( ) < = + - * ;  All else [...] is none");
        for (char c = 33; c < 127; c++) {
            if (Character.isLetterOrDigit(c)) {
                continue;
            }
            boolean isJoin = "<=+-*".indexOf(c) >= 0;
            LeaderlessOrder x = new LeaderlessOrder();
            due("a law with " + c, Check.group(x, "clashes 1" + c + "2;"), isJoin ? 0 : c == ';' ? 1 + 16 * 10
                    : 1 + 16 * 9);
            due("a group with " + c, Check.group(x, "keys 1" + c), c == ';' ? 0 : 1 + 16 * 6);
            due("a group begun with " + c, Check.group(x, " " + c), 1 + 16);
            due("a work with " + c, Check.work(x, "clean" + c), c == ';' ? 0 : 1 + 16 * 5);
        }
        clash("(1)", true);
    }

    // ---- GROUP ----

    private static void replicas() {
        says("replicas: 3 or 5 (ahead of it there are none), numbered from 0");
        for (int n : new int[] {0, 1, 2, 4, 6, 7, 8, 35, 53, 300, 9999}) {
            bad(4, "replicas @" + n + ";");
        }
        due("replicas 3", good("replicas 3;").count(0), 3);
        due("replicas 5", good("replicas 5;").count(0), 5);
        due("replicas 0005", good("replicas 0005;").count(0), 5);
        bad(4, "keys 1;command a put key 0 value 0 at @0;replicas 3;");
        bad(4, "keys 1;command a put key 0 value 0 at @0;");
        for (int n = 3; n <= 5; n += 2) {
            String head = "keys 1;replicas " + n + ";command a put key 0 value 0 at ";
            for (int r = 0; r < n; r++) {
                due("at " + r + " of " + n, good(head + r + ";").command(0, 3), r);
            }
            bad(4, head + "@" + n + ";");
            bad(4, head + "@" + (n + 1) + ";");
            bad(4, head + "@9999;");
        }
        due("no replicas", good("keys 1;").count(0), 0);
    }

    private static void keys() {
        says("keys 1 to 4 (0) / a KEY told");
        bad(4, "keys @0;");
        bad(4, "keys @5;");
        bad(4, "keys @14;");
        bad(4, "replicas 3;command a put key @0 value 0 at 0;keys 1;");
        bad(4, "replicas 3;command a put key @0 value 0 at 0;");
        for (int n = 1; n <= 4; n++) {
            due("keys " + n, good("keys " + n + ";").count(1), n);
            String head = "replicas 3;keys " + n + ";command a put key ";
            due("key 0 of " + n, good(head + 0 + " value 0 at 0;").command(0, 1), 0);
            due("the last key of " + n, good(head + (n - 1) + " value 0 at 0;").command(0, 1), n - 1);
            bad(4, head + "@" + n + " value 0 at 0;");
            bad(4, head + "@9999 value 0 at 0;");
        }
        due("no keys", good("replicas 3;").count(1), 0);
    }

    private static void commands() {
        says("value 0 to 99");
        String head = "replicas 3;keys 1;command a put key 0 value ";
        for (int v : new int[] {0, 1, 98, 99}) {
            due("value " + v, good(head + v + " at 0;").command(0, 2), v);
        }
        due("value 0099", good(head + "0099 at 0;").command(0, 2), 99);
        bad(4, head + "@100 at 0;");
        bad(4, head + "@9999 at 0;");
        bad(1, head + "@-1 at 0;");
        says("KIND: put, add, get, wipe");
        String[] kinds = {"put", "add", "get", "wipe"};
        for (int k = 0; k < 4; k++) {
            due(kinds[k], good(head.replace("put", kinds[k]) + "0 at 0;").command(0, 0), k);
        }
        for (String no : "puts ad gett wip low a not key run".split(" ")) {
            bad(1, "replicas 3;keys 1;command a @" + no + " key 0 value 0 at 0;");
        }
        says("command: 8 at most, numbered as told / 5 one too many: the word command of a ninth");
        LeaderlessOrder x = good(eight() + "clashes 0;");
        due("commands", x.count(2), 8);
        for (int c = 0; c < 8; c++) {
            due("the value of " + c, x.command(c, 2), 90 + c);
        }
        bad(5, eight() + "@command i put key 0 value 0 at 0;");
        bad(5, eight() + "@command");
        bad(5, eight() + "@command a put key 0 value 0 at 0;");
        bad(1, eight() + "@comman");
        says("GROUP: any number of [...]");
        due("none", good("").count(0), 0);
        due("in another order", good("clashes 0;keys 1;replicas 3;command a put key 0 value 0 at 0;").count(2), 1);
    }

    private static void eachToken() {
        says("command NAME KIND key N value N at N ; / 1 it is none, or can't stand there");
        eachToken("replicas 3;keys 2;", "command b get key 1 value 5 at 2 ;".split(" "));
        eachToken("", "replicas 3 ;".split(" "));
        eachToken("", "keys 3 ;".split(" "));
    }

    /** A statement with one token left out, told twice, or another one in its place: that, or the next one, can't stand. */
    private static void eachToken(String head, String[] line) {
        good(head + String.join(" ", line));
        for (int i = 0; i < line.length; i++) {
            String left = head;
            String right = "";
            for (int k = 0; k < line.length; k++) {
                left += k < i ? line[k] + " " : "";
                right += k > i ? " " + line[k] : "";
            }
            boolean isNumber = Character.isDigit(line[i].charAt(0));
            for (String no : new String[] {"(", "=", "?", "not", "keyz", "Key", "12345", isNumber ? "b" : "1"}) {
                if (!(no.equals("keyz") && line[i].equals("b"))) {
                    bad(1, left + "@" + no + right);
                }
            }
            if (i > 0) {
                bad(1, left + line[i] + " @" + line[i] + right);
            }
            bad(1, left + "@" + right.trim());
        }
    }

    private static void once() {
        says("replicas, keys, clashes: once each / 3 [...] replicas, keys, clashes a second time");
        for (int n : new int[] {0, 3, 4, 5}) {
            bad(3, "replicas 3;@replicas " + n + ";");
            bad(3, "replicas 5;keys 1;@replicas " + n + ";");
            bad(3, "keys 4;@keys " + n + ";");
        }
        bad(3, "clashes 0;@clashes 0;");
        bad(3, "clashes 0;keys 1;replicas 3;@clashes");
        bad(3, "replicas 3;@replicas");
        bad(3, "keys 1;@keys;");
        bad(1, "replicas 3;@replica 3;");
    }

    // ---- WORK ----

    private static void workLines() {
        says("WORK: any number of propose NAME ; ask NAME N ; [...] clean ; (a COMMAND; a REPLICA)");
        String five = ONE.replace("replicas 3", "replicas 5");
        for (String step : "propose decide settle".split(" ")) {
            goodWork(ONE, step + " a;", 1);
            badWork(ONE, 1, step + " a @0;");
            badWork(ONE, 1, step + " @;");
            badWork(ONE, 1, step + " @0;");
            badWork(ONE, 2, step + " @b;");
            badWork(ONE, 1, step + " a@");
        }
        for (String step : "ask accept tell recover".split(" ")) {
            goodWork(ONE, step + " a 0;" + step + " a 1;" + step + " a 2;", 3);
            goodWork(five, step + " a 4;", 1);
            badWork(ONE, 4, step + " a @3;");
            badWork(five, 4, step + " a @5;");
            badWork(ONE, 1, step + " a @;");
            badWork(ONE, 1, step + " @0 a;");
            badWork(ONE, 2, step + " @b 9;");
            badWork(ONE, 1, step + " a 0 @0;");
            badWork(ONE, 1, step + " a 0@");
        }
        for (String step : "down up run".split(" ")) {
            goodWork(ONE, step + " 0;" + step + " 2;", 2);
            goodWork(five, step + " 4;", 1);
            badWork(ONE, 4, step + " @3;");
            badWork(five, 4, step + " @5;");
            badWork(ONE, 1, step + " @a;");
            badWork(ONE, 1, step + " @;");
            badWork(ONE, 1, step + " 0 @0;");
            badWork("", 4, step + " @0;");
        }
        goodWork(ONE, "clean;", 1);
        goodWork("", "clean;", 1);
        badWork(ONE, 1, "clean @0;");
        badWork(ONE, 1, "clean @a;");
        badWork("", 2, "propose @a;");
        goodWork(ONE, "", 0);
        goodWork(ONE, "  \n", 0);
        for (String no : RESERVED) {
            if (!List.of(STEPS).contains(no)) {
                badWork(ONE, 1, "@" + no + " a 0;");
            }
        }
        badWork(ONE, 1, "@a;");
        badWork(ONE, 1, "@low;");
        badWork(ONE, 1, "@0;");
    }

    private static void workRoom() {
        says("40 lines at most / 5 one too many: [...] the first word of a 41st line of a WORK");
        goodWork(ONE, "clean;".repeat(39), 39);
        goodWork(ONE, "clean;".repeat(40), 40);
        goodWork(ONE, "run 0;".repeat(40) + " \n", 40);
        for (String step : STEPS) {
            badWork(ONE, 5, "clean;".repeat(40) + "@" + step);
        }
        badWork(ONE, 5, "clean;".repeat(40) + "@clean;");
        badWork(ONE, 5, "clean;".repeat(40) + "@propose b;");
        badWork(ONE, 2, "clean;".repeat(39) + "propose @b;clean;clean;");
    }

    private static void names() {
        says("A NAME is another WORD than replicas, [...] not, and, or");
        for (String no : RESERVED) {
            bad(1, "replicas 3;keys 1;command @" + no + " put key 0 value 0 at 0;");
            badWork(ONE, 1, "propose @" + no + ";");
            badWork(ONE, 1, "ask @" + no + " 0;");
        }
        List<String> near = new ArrayList<>(List.of("low", "high", "apart", "same"));
        for (String no : RESERVED) {
            near.add(no.substring(0, no.length() - 1) + 'z');
        }
        for (String name : near) {
            String group = ONE.replace("command a", "command " + name);
            goodWork(group, "propose " + name + ";ask " + name + " 1;", 2);
            badWork(ONE, 2, "propose @" + name + ";");
        }
        says("no two COMMANDS are alike / 3 a NAME told already");
        String tail = " put key 0 value 0 at 0;";
        String[] all = {"abcdefgh", "abcdefgi", "bbcdefgh", "a", "aa", "ab", "ba", "h"};
        StringBuilder group = new StringBuilder("replicas 3;keys 1;");
        for (String name : all) {
            group.append("command ").append(name).append(tail);
        }
        due("names that are not alike", good(group.toString()).count(2), 8);
        for (char c = 'a'; c <= 'z'; c++) {
            StringBuilder same = new StringBuilder("replicas 3;keys 1;");
            for (int many = 1; many <= 8; many++) {
                same.append("command ").append(("" + c).repeat(many)).append(tail);
            }
            due("names of one letter " + c, good(same.toString()).count(2), 8);
        }
        for (int i = 0; i < 7; i++) {
            bad(3, group.substring(0, group.indexOf("command h")) + "command @" + all[i] + tail);
        }
        says("2 a NAME of no COMMAND (of a WORK) told");
        badWork(group.toString(), 2, "propose abcdefgi;propose @abcdefgj;");
        badWork(group.toString(), 2, "tell @aaa 9;");
        badWork(group.toString(), 2, "tell @b 9;");
        LeaderlessOrder x = Check.made(ONE.replace("command a", "command old"));
        due("group", Check.group(x, ONE), 0);
        due("a NAME of the GROUP ahead", Check.work(x, "propose old;"), 2 + 16 * 8);
    }

    // ---- E ----

    private static void lawForm() {
        says("E: TEST { and TEST or or TEST }, from the left; TEST: SUM, or SUM < SUM, or SUM = SUM");
        clash("1 or 1 and 0", false);
        clash("0 and 0 or 1", true);
        clash("1 or 0 and 0 or 0", false);
        for (String first : new String[] {"<", "="}) {
            for (String second : new String[] {"<", "="}) {
                bad(1, "clashes 1" + first + "2@" + second + "3;");
                good("clashes 1" + first + "2 and 2" + second + "3;");
                good("clashes (1" + first + "2)" + second + "3;");
            }
        }
        says("SUM: PRODUCT { + or - PRODUCT }; PRODUCT: PART { * PART }");
        clash("10-3-2=5", true);
        clash("10-3+2=9", true);
        clash("2+3*4=14", true);
        clash("2*3+4=10", true);
        clash("2*3*4=24", true);
        bad(1, "clashes @-1;");
        bad(1, "clashes @*1;");
        bad(1, "clashes 1+@+1;");
        bad(1, "clashes 1*@;");
        bad(1, "clashes 1 and @and 1;");
        bad(1, "clashes 1<@;");
        says("PART: a NUMBER, a fact, not PART, ( E )");
        clash("not 5=0", true);
        clash("not(5=0)", true);
        clash("not 0*0", false);
        clash("not 0+1=2", true);
        bad(1, "clashes (@);");
        bad(1, "clashes @;");
        bad(1, "clashes not@;");
        bad(1, "clashes (1@;");
        bad(1, "clashes 1@);");
        bad(1, "clashes 1 @low;");
        bad(1, "clashes @key;");
        bad(1, "clashes @a;");
        bad(1, "clashes not @or 1;");
    }

    private static void lawNest() {
        says("no PART lies within 5 of not and ( ) / 5 [...] not, or a PART, within 5 others");
        for (String part : new String[] {"1", "low", "9999"}) {
            for (int open = 0; open <= 5; open++) {
                String by = "(".repeat(open) + "not ".repeat(5 - open);
                String ends = ")".repeat(open) + ";";
                bad(5, "clashes " + by + "@" + part + ends);
                bad(5, "clashes " + by + "@not " + part + ends);
                bad(5, "clashes " + by + "@(" + part + ")" + ends);
                bad(5, "clashes 1+" + by + "@" + part + ends);
            }
            for (int open = 0; open <= 4; open++) {
                good("clashes " + "(".repeat(open) + "not ".repeat(4 - open) + part + ")".repeat(open) + ";");
                good("clashes " + "not ".repeat(4 - open) + "(".repeat(open) + part + ")".repeat(open) + ";");
            }
        }
        good("clashes ((((1))))+((((1))))*not not not not 1<not(not(1))and(((not 0)))or 1;");
        good("clashes ((1)+(1)*(1)and(1)or(1)<(1))+(((1)))=((not 1));");
        bad(5, "clashes ((1)+(1)+((((@1)))));");
        bad(5, "clashes (1+(1+(1+(1+(@1)))));");
        bad(5, "clashes not(not(not @1));");
        bad(5, "clashes not(not(1+not @1));");
        good("clashes not(not(1))+not(not(1));");
    }

    private static void lawFacts() {
        says("low, high (the values of the two, the less and the greater one)");
        String pair = "replicas 3;keys 4;command a get key K value V at 1;command b get key L value W at R;clashes E;";
        String[][] so = {{"0", "30", "3", "10", "2", "low=10"}, {"0", "10", "3", "30", "2", "low=10"},
            {"0", "30", "3", "10", "2", "high=30"}, {"0", "10", "3", "30", "2", "high=30"},
            {"0", "7", "3", "7", "2", "low=7 and high=7"}, {"0", "0", "3", "99", "2", "low=0 and high=99"},
            {"0", "0", "3", "0", "2", "low=0 and high=0"}, {"0", "1", "3", "0", "2", "apart=3"},
            {"3", "1", "0", "0", "2", "apart=3"}, {"1", "1", "2", "0", "2", "apart=1"},
            {"2", "1", "2", "0", "2", "apart=0"}, {"0", "1", "3", "0", "1", "same=1"},
            {"0", "1", "3", "0", "2", "same=0"}, {"0", "1", "3", "0", "0", "same=0"}};
        for (String[] row : so) {
            says("low, high, apart (how far their KEYS are apart), same (1: one LEADER)");
            String text = pair.replace("K", row[0]).replace("V", row[1]).replace("L", row[2]).replace("W", row[3])
                    .replace("R", row[4]).replace("E", row[5]);
            LeaderlessOrder x = good(text);
            Check.due("clash(0, 1) of " + text, x.clash(0, 1), true);
            Check.due("clash(1, 0) of " + text, x.clash(1, 0), true);
        }
    }

    private static void lawWorth() {
        says("Of not, and, or, < and = comes 1 or 0; what is not 0 is so");
        String[] so = {"(5 and 3)=1", "(5 and 0)=0", "(0 and 5)=0", "(7 or 0)=1", "(0 or 7)=1", "(0 or 0)=0",
            "(7 or 9)=1", "(not 0)=1", "(not 9)=0", "(1<2)=1", "(2<2)=0", "(3<2)=0", "(2=2)=1", "(2=3)=0", "2",
            "0-1", "(0-1 and 1)=1", "(0 or 0-1)=1", "not(0-1)=0", "0-2<0-1", "not not 7=1"};
        for (String law : so) {
            clash(law, true);
        }
        clash("0", false);
        clash("1-1", false);
        clash("0*9999", false);
        says("ints wrap");
        clash("256*256*256*256=0", true);
        clash("256*256*256*128<0", true);
        clash("256*256*256*127<256*256*256*128", false);
        clash("256*256*256*128-1+1<0", true);
        clash("0<256*256*256*128-1", true);
        clash("256*256*256*128", true);
        clash("256*256*256*256", false);
        clash("2048*2048*1024", false);
        clash("not not 0", false);
        Check.due("0 is 0, of one LEADER", good(TWO.replace("at 1", "at 0") + "clashes 0;").clash(0, 1), false);
        says("Without clashes: 0");
        LeaderlessOrder x = good(TWO + "clashes 1;");
        due("a group without a law", Check.group(x, TWO), 0);
        Calls.due(x, "clash(0,1)=false clash(1,0)=false lone()=3");
        due("a law with a FAULT", Check.group(x, "clashes 1"), 1 + 16 * 9);
        due("a group without a law", Check.group(x, TWO), 0);
        Calls.due(x, "clash(0,1)=false clash(1,0)=false");
        due("a group with a law", Check.group(x, TWO + "clashes 1;"), 0);
        Calls.due(x, "clash(0,1)=true clash(1,0)=true");
        due("a group with another law", Check.group(x, "clashes 1 and 0;" + TWO), 0);
        Calls.due(x, "clash(0,1)=false clash(1,0)=false");
        Check.due("clash without a law", good(TWO).clash(0, 1), false);
        Check.due("clash with a law ahead of the COMMANDS", good("clashes 1;" + TWO).clash(0, 1), true);
    }

    // ---- FAULTS ----

    private static void theEnd() {
        says("the end being one at the text's length");
        bad(1, "replicas@");
        bad(1, "replicas  @");
        bad(1, "replicas 3\n@");
        bad(1, "keys 1; command @");
        bad(1, "clashes (@");
        bad(1, "clashes 1 @");
        badWork(ONE, 1, "propose@");
        badWork(ONE, 1, "ask a  @");
        badWork(ONE, 1, "clean;clean @");
        good(" ");
        good("keys 1; ");
        goodWork(ONE, "clean; ", 1);
    }

    private static void theFirstWrong() {
        says("FAULTS, kind + 16 * the place (from 0) of a token [...] of the first token from the left that is wrong");
        bad(4, "keys @9;replicas 4;?");
        bad(1, "@?keys 9;");
        bad(1, "replicas 3@,replicas 3;");
        bad(4, "replicas 3;keys 1;command a put key @1 value 100 at 3;");
        bad(4, "replicas 3;keys 1;command a put key 0 value @100 at 3;");
        bad(3, "clashes 1;@clashes ;");
        badWork(ONE, 2, "ask @b 7;");
        badWork(ONE, 4, "ask a @7;ask b 0;");
    }

    private static void theLeastWrong() {
        says("of the first token from the left that is wrong the least");
        bad(1, "clashes (((((@)");
        bad(1, "clashes (((((@;");
        bad(1, "clashes (((((@");
        bad(1, "clashes not not not not not @and 1;");
        bad(1, "clashes (((((@key");
        bad(1, "clashes (((((@00001");
        bad(1, "clashes (((((@abcdefghi");
        bad(1, eight() + "@?");
        badWork(ONE, 1, "clean;".repeat(40) + "@a;");
        badWork(ONE, 1, "clean;".repeat(40) + "@;");
        badWork(ONE, 1, "clean;".repeat(40) + "@0;");
        badWork(ONE, 1, "clean;".repeat(40) + "@put;");
        badWork(ONE, 1, "clean;".repeat(40) + "@cleanup;");
        badWork(ONE, 1, "clean;".repeat(40) + "@?");
    }

    // ---- what comes of it ----

    private static final String USED = "replicas 3;keys 1;command a put key 0 value 5 at 0;"
            + "command b put key 0 value 7 at 1;command c put key 0 value 9 at 2;";

    /** All that a GROUP told anew must put back is another way here. */
    private static LeaderlessOrder used() {
        LeaderlessOrder x = Check.made(USED);
        Calls.due(x, "propose(0)=1 ask(0,1)=1 decide(0)=1 tell(0,1)=true tell(0,2)=true run(0)=1 run(1)=1 run(2)=1 "
                + "clean()=1 propose(1)=1 ask(1,2)=1 propose(2)=2 known(2,2,3)=2 recover(1,2)=2 see(0,1,true)=true "
                + "mark(0,false)=true mark(3,false)=true down(1)=true count(8)=14");
        due("work", Check.work(x, "clean;clean;"), 0);
        return x;
    }

    private static void groupFromThenOn() {
        says("Without a FAULT a GROUP is the GROUP from then on: all REPLICAS up, all KEYS 0, nobody knows of any "
                + "COMMAND, nothing CLEANED, no WORK, nothing SEEN, nothing can be undone, no MARK is there");
        LeaderlessOrder x = used();
        due("group", Check.group(x, "replicas 5;keys 2;command b get key 1 value 1 at 4;"
                + "command a put key 1 value 2 at 3;command c add key 0 value 3 at 2;"), 0);
        Calls.due(x, "count(0)=5 count(1)=2 count(2)=3 count(3)=31 count(4)=0 count(5)=0 count(6)=0 count(7)=0 "
                + "count(8)=0 count(9)=0 undo()=false mark(0,true)=false mark(3,true)=false who()=31");
        for (int r = 0; r < 5; r++) {
            Calls.due(x, "replica(" + r + ",0)=1 value(" + r + ",0)=0 value(" + r + ",1)=0 order(" + r + ",0)=throws");
            for (int c = 0; c < 3; c++) {
                for (int what = 0; what < 4; what++) {
                    due("known", x.known(r, c, what), 0);
                }
            }
        }
        Calls.due(x, "command(0,0)=2 command(0,4)=4 command(1,4)=3 command(2,4)=2 command(0,5)=0 command(1,5)=0 "
                + "command(1,6)=0 command(0,7)=0 judged(0)=NONE clash(0,1)=true clash(1,2)=false");
        LeaderlessOrder y = used();
        due("the same group", Check.group(y, USED), 0);
        String fresh = Calls.all(Check.made(USED));
        Check.due("all as at first, " + Calls.all(y), Calls.all(y).equals(fresh), true);
        Calls.due(y, "count(8)=0 mark(0,true)=false mark(1,true)=false mark(2,true)=false mark(3,true)=false "
                + "propose(1)=1");
    }

    private static void groupRefused() {
        says("The TAPE is read as a GROUP: 0, or its FAULT (all stays then)");
        for (String no : new String[] {"keys", "replicas 5;keys 4;command c put key 0 value 0 at 0;clashes 1;keys 1;",
            "command", "clashes 1;?", "replicas 4;"}) {
            LeaderlessOrder x = used();
            String old = Calls.all(x);
            Check.due("a FAULT of " + no, Check.group(x, no) != 0, true);
            Check.due("all stays behind " + no, Calls.all(x).equals(old), true);
            Calls.due(x, "count(8)=14 count(9)=0 clash(0,1)=true mark(1,true)=false");
            due("the names stay", Check.work(x, "propose a;propose b;run 2;"), 0);
            Calls.due(x, "undo()=true count(3)=7 mark(3,true)=true count(8)=0 count(6)=0");
        }
        says("At first: nothing");
        LeaderlessOrder x = new LeaderlessOrder();
        due("a FAULT at first", Check.group(x, "replicas 3;keys 1"), 1 + 16 * 17);
        Calls.due(x, "count(0)=0 count(1)=0 count(2)=0 count(3)=0 count(9)=0 down(0)=false");
    }

    private static void workIsTheWork() {
        says("A WORK is the WORK / The TAPE is read as a WORK, likewise [0, or its FAULT (all stays then)]");
        LeaderlessOrder x = used();
        String old = Calls.all(x);
        due("a FAULT", Check.work(x, "clean;run 3;"), 4 + 16 * 10);
        due("a FAULT", Check.work(x, "clean;".repeat(41)), 5 + 16 * 240);
        due("a FAULT", Check.work(x, "down 2;run 2;clean"), 1 + 16 * 18);
        Check.due("all stays", Calls.all(x).equals(old), true);
        Calls.due(x, "count(6)=2 count(8)=14 count(9)=0 judged(0)=NONE");
        due("another WORK", Check.work(x, "up 0;"), 0);
        Calls.due(x, "count(6)=1 judged(0)=0 count(8)=14 count(7)=1 mark(0,true)=true count(6)=0");
        due("another WORK", Check.work(x, "clean;clean;clean;"), 0);
        due("an empty WORK", x.work(), 0);
        Calls.due(x, "count(6)=0");
    }
}
