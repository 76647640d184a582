/** The program that README.md shows; ReadmeTest compares both. */
public final class Example {
    private Example() { }

    public static void main(String[] args) {
        LeaderlessOrder x = new LeaderlessOrder();
        feed(x, "replicas 3; keys 2;"
                + "command a put key 0 value 5 at 0;"
                + "command b add key 0 value 3 at 1;"
                + "clashes apart = 1 and same;");
        System.out.println("group: " + x.group());
        System.out.println("a and b clash: " + x.clash(0, 1));

        System.out.println("propose a: " + x.propose(0));
        System.out.println("propose b: " + x.propose(1));
        System.out.println("ask 1 of a: " + x.ask(0, 1));
        System.out.println("at once now: " + x.quick(0));
        System.out.println("decide a: " + x.decide(0));
        System.out.println("accept a by 1: " + x.accept(0, 1));
        System.out.println("settle a: " + x.settle(0));
        System.out.println("what 0 waits for: " + x.waits(0));
        System.out.println("ask 0 of b: " + x.ask(1, 0));
        System.out.println("decide b: " + x.decide(1));
        System.out.println("accept b by 0: " + x.accept(1, 0));
        System.out.println("settle b: " + x.settle(1));
        System.out.println("tell 0 of b: " + x.tell(1, 0));
        System.out.println("ready at 0: " + x.ready(0));
        System.out.println("run 0: " + x.run(0));
        System.out.println("first and second: " + x.order(0, 0) + ", " + x.order(0, 1));
        System.out.println("key 0 at 0: " + x.value(0, 0));
        System.out.println("no such replica: " + x.run(3));

        feed(x, "propose a; ask a 1; decide a; run 0; run 7;");
        System.out.println("work: " + x.work());
    }

    /** Feeds a text, 24 signs a call. */
    private static void feed(LeaderlessOrder x, String text) {
        for (int i = 0; i < text.length(); i += 24) {
            x.feed(eight(text, i), eight(text, i + 8), eight(text, i + 16));
        }
    }

    /** Eight signs from a place on, the first one highest; 0 stands where there is none. */
    private static long eight(String text, int from) {
        long bytes = 0;
        for (int i = from; i < from + 8; i++) {
            bytes = bytes << 8 | (i < text.length() ? text.charAt(i) : 0);
        }
        return bytes;
    }
}
