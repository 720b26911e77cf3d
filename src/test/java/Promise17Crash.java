/** Promise 17: ran, crash, net. */
public final class Promise17Crash {
    public static void main(String[] args) {
        Check c = new Check();
        WireHouse x = c.house;
        c.schema(0, "record A { bytes y @ 1; int x @ 2; } record B { } service S { cell n; call k (A) B @ 1 { n = n + 1; } call f (A) B @ 2 { fail in.x; } }");
        Check.due("ran without a server", x.ran(0), Check.NO);
        Check.due("below 0 without a server", x.ran(-1), Check.BAD);
        Check.due("crash without a server", x.crash(), Check.NO);
        x.server(0, 0, 0);
        x.client(0, 0, 0);
        Check.due("no such call", x.ran(2), Check.BAD);
        c.read(0, 0, "A {x: 1}");
        c.read(0, 1, "A {y: \"" + Check.times("a", 40) + "\"}");
        x.invoke(0, 0, 0);
        x.invoke(0, 1, 0);
        x.invoke(0, 0, 1);
        x.twice(0);
        for (int i = 0; i < 3; i++) {
            x.deliver(0);
        }
        x.tick(5);
        int[] due = {4, 5, 2, 1, 0, 0};
        for (int what = 0; what < 6; what++) {
            Check.due("net(" + what + ")", x.net(what), due[what]);
        }
        Check.due("another what", x.net(6), Check.BAD);
        Check.due("below 0", x.net(-1), Check.BAD);
        c.tape("abc");
        Check.due("bytes of the tape", x.net(4), 3);
        x.cut(3);
        Check.due("ran", x.ran(0), 1);
        Check.due("ran with a code", x.ran(1), 1);
        Check.due("crash", x.crash(), 2);
        Check.due("remembers nothing", x.net(2), 0);
        Check.due("keeps no parts", x.net(3), 0);
        Check.due("cells stay", x.cell(0), 1);
        Check.due("LETTERS stay", x.net(0), 4);
        Check.due("time stays", x.net(1), 5);
        x.deliver(0);
        Check.due("the rest of a call alone", x.ran(0), 1);
        Check.due("a part is kept", x.net(3), 1);
        x.deliver(0);
        Check.due("a call that it does not remember", x.ran(0), 2);
        Check.due("it is DONE again", x.cell(0), 2);
        Check.due("crash once more", x.crash(), 1);
        Check.due("nothing in mind", x.crash(), 0);
        c.schema(0, "record R { }");
        for (int what = 0; what < 6; what++) {
            Check.due("without a server net(" + what + ")", x.net(what), 0);
        }
        Check.end();
    }
}
