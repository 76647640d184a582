/** What the tests share: they count the answers that are not due, and feed texts. */
final class Check {
    private static int asked = 0;
    private static int wrong = 0;
    private static String sentence = "";

    private Check() { }

    /** The words of the document that the checks behind this one are of. */
    static void says(String words) {
        sentence = words;
    }

    static void due(String call, long got, long want) {
        asked++;
        if (got != want) {
            wrong++;
            System.out.println(call + " answered " + got + ", due is " + want);
            if (!sentence.isEmpty()) {
                System.out.println("    the document: " + sentence);
            }
        }
    }

    static void due(String call, boolean got, boolean want) {
        due(call, got ? 1 : 0, want ? 1 : 0);
    }

    static int wrong() {
        return wrong;
    }

    /** Feeds a text, 24 signs a call. */
    static void feed(LeaderlessOrder x, String text) {
        for (int i = 0; i < text.length(); i += 24) {
            x.feed(eight(text, i), eight(text, i + 8), eight(text, i + 16));
        }
    }

    /** Eight signs from a place on, the first one highest; what is beyond the text is 0, which no TAPE takes. */
    static long eight(String text, int from) {
        long bytes = 0;
        for (int i = from; i < from + 8; i++) {
            bytes = bytes << 8 | (i < text.length() ? text.charAt(i) & 255 : 0);
        }
        return bytes;
    }

    static int group(LeaderlessOrder x, String text) {
        feed(x, text);
        return x.group();
    }

    static int work(LeaderlessOrder x, String text) {
        feed(x, text);
        return x.work();
    }

    static LeaderlessOrder made(String text) {
        LeaderlessOrder x = new LeaderlessOrder();
        due("group of " + text, group(x, text), 0);
        return x;
    }

    /** The order in which a REPLICA has RUN, as digits; "" if nothing. */
    static String order(LeaderlessOrder x, int replica) {
        StringBuilder s = new StringBuilder();
        for (int i = 0; i < 9; i++) {
            try {
                s.append(x.order(replica, i));
            } catch (java.util.NoSuchElementException e) {
                return s.toString();
            }
        }
        return s.toString();
    }

    static void end(String test) {
        System.out.println(test + ": " + (asked - wrong) + " as due, " + wrong + " not");
        if (wrong != 0) {
            System.exit(1);
        }
    }
}
