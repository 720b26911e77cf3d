/** Promise 16: outcome, take, cell. */
public final class Promise16Outcome {
    private static final Check C = new Check();
    private static final WireHouse X = C.house;

    public static void main(String[] args) {
        outcomes();
        answersApart();
        Check.end();
    }

    private static void outcomes() {
        C.schema(0, "record A { int x @ 1; } record B { long l @ 1 = 3; maybe bool b @ 2; } service S { cell n; cell big; call f (A) B @ 9 { fail 1; } call k (A) B @ 1 { n = n - in.x; big = -9223372036854775807 - 1; out.l = n; out.b = n; } }");
        Check.due("no client", X.outcome(0, 0, 0), Check.BAD);
        Check.due("no client to take from", X.take(0, 0, 0), Check.BAD);
        X.server(0, 0, 2);
        X.client(2, 0, 0);
        C.read(0, 0, "A {x: 7}");
        Check.due("no call yet", X.outcome(2, 0, 0), Check.BAD);
        X.invoke(2, 1, 0);
        X.invoke(2, 0, 0);
        int[] due = {0, 0, 1, 1};
        for (int what = 0; what < 4; what++) {
            Check.due("outcome(2, 0, " + what + ")", X.outcome(2, 0, what), due[what]);
        }
        Check.due("the other's place", X.outcome(2, 1, 3), 0);
        Check.due("another what", X.outcome(2, 0, 4), Check.BAD);
        Check.due("below 0", X.outcome(2, 0, -1), Check.BAD);
        Check.due("no such call", X.outcome(2, 2, 0), Check.BAD);
        Check.due("a call below 0", X.outcome(2, -1, 0), Check.BAD);
        Check.due("no such client", X.outcome(3, 0, 0), Check.BAD);
        Check.due("take of one that WAITS", X.take(2, 0, 5), Check.NO);
        Check.due("take of no call", X.take(2, 2, 5), Check.BAD);
        Check.due("take to no message", X.take(2, 0, 12), Check.BAD);
        for (int i = 0; i < 4; i++) {
            X.deliver(0);
        }
        Check.due("ANSWERED", X.outcome(2, 0, 0), 1);
        Check.due("code", X.outcome(2, 0, 1), 0);
        Check.due("take", X.take(2, 0, 5), 2);
        C.printed("the answer", 5, "B{l:-7,b:true}");
        Check.due("once more", X.take(2, 0, 0), 2);
        Check.due("FAILED", X.outcome(2, 1, 0), 2);
        Check.due("code", X.outcome(2, 1, 1), 4);
        Check.due("take of one that FAILED", X.take(2, 1, 5), Check.NO);
        Check.due("cell", X.cell(0), -7);
        Check.due("the lowest", X.cell(1), Long.MIN_VALUE);
        Check.due("no cell", X.cell(2), 0);
        Check.due("below 0", X.cell(-1), 0);
        X.tick(100);
        Check.due("ANSWERED for ever", X.outcome(2, 0, 0), 1);
        Check.due("sent once", X.outcome(2, 0, 2), 1);
    }

    /** Parts of two answers to one call: of another number of parts, and of as many. */
    private static void answersApart() {
        StringBuilder parts = new StringBuilder();
        StringBuilder steps = new StringBuilder();
        for (int i = 1; i <= 12; i++) {
            parts.append("maybe fixlong f").append(i).append(" @ ").append(i).append("; ");
            steps.append("out.f").append(i).append(" = n; ");
        }
        C.schema(0, "record A { } record B { " + parts + "} service S { cell n; call k (A) B @ 1 { n = n + 1; fail n == 2; " + steps + "} call up (A) B @ 2 { n = n + 1; } }");
        X.server(0, 0, 0);
        X.client(0, 0, 0);
        X.client(1, 0, 0);
        C.read(0, 0, "A {}");
        X.invoke(1, 1, 0);
        X.invoke(0, 0, 0);
        for (int i = 0; i < 3; i++) {
            X.twice(1);
        }
        X.deliver(1);
        Check.due("an answer of 12 times 9 bytes and 8: three parts", X.net(0), 7);
        X.crash();
        X.deliver(1);
        Check.due("another answer of one part", X.net(0), 7);
        X.deliver(0);
        X.crash();
        X.deliver(0);
        X.crash();
        X.deliver(0);
        Check.due("DONE four times", X.ran(0), 4);
        Check.due("LETTERS: three, one, that of up, three, three", X.net(0), 11);
        X.lose(4);
        // 0 1 2 of the first, 3 of the second, 4 5 6 of the third, 7 8 9 of the fourth
        X.deliver(0);
        X.deliver(3);
        Check.due("parts 0 and 0: the first one stays", X.outcome(0, 0, 0), 0);
        X.deliver(0);
        Check.due("part 1 of the first", X.outcome(0, 0, 0), 0);
        X.deliver(X.net(0) - 1);
        Check.due("part 2 of the fourth", X.outcome(0, 0, 0), 1);
        X.take(0, 0, 1);
        C.ask(1, 7, "f1");
        Check.due("from the first", X.number(), 1);
        C.ask(1, 7, "f12");
        Check.due("from the fourth", X.number(), 4);

        X.server(0, 0, 0);
        X.client(0, 0, 0);
        X.invoke(0, 0, 0);
        X.twice(0);
        X.deliver(0);
        X.crash();
        X.deliver(0);
        Check.due("three parts and one", X.net(0), 4);
        X.deliver(0);
        X.deliver(0);
        X.deliver(1);
        Check.due("the later one takes the place", X.outcome(0, 0, 0), 2);
        Check.due("code", X.outcome(0, 0, 1), 4);
    }
}
