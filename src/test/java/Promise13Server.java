/** Promise 13: where, server, client. */
public final class Promise13Server {
    public static void main(String[] args) {
        Check c = new Check();
        WireHouse x = c.house;
        Check.due("where before any", x.where(), 0);
        c.schema(0, "record A { int x @ 5; } record B { text x @ 5; } service S { cell n; call k (A) B @ 3 { n = n + in.x; } } service T { }");
        x.judge(0, 0, 0, 1, 2);
        Check.due("where", x.where(), 5);
        x.judge(0, 0, 0, 1, 9);
        Check.due("where behind BAD", x.where(), 5);
        x.judge(0, 0, 0, 0, 2);
        Check.due("where of ALIKE", x.where(), 0);

        Check.due("a client without a server", x.client(0, 0, 0), Check.NO);
        Check.due("no such service ahead of it", x.client(0, 0, 2), Check.BAD);
        Check.due("no such schema", x.server(4, 0, 0), Check.BAD);
        Check.due("below 0 of no schema", x.server(1, -1, 0), Check.BAD);
        Check.due("no format", x.server(1, 0, 3), Check.BAD);
        Check.due("none there", x.server(1, 0, 0), Check.NO);
        Check.due("no such service", x.server(0, 2, 0), Check.BAD);
        Check.due("server", x.server(0, 0, 0), 1);
        Check.due("no such client", x.client(3, 0, 0), Check.BAD);
        Check.due("no such service of a client", x.client(0, 0, 2), Check.BAD);
        Check.due("no schema of a client", x.client(0, 1, 7), Check.NO);
        Check.due("no such schema of a client", x.client(0, -1, 0), Check.BAD);
        Check.due("client", x.client(0, 0, 0), 1);
        Check.due("another one", x.client(2, 0, 1), 1);

        c.read(0, 0, "A {x: 4}");
        Check.due("a call", x.invoke(0, 0, 0), 0);
        Check.due("a call", x.invoke(0, 0, 0), 1);
        x.deliver(0);
        Check.due("cell", x.cell(0), 4);
        Check.due("ran", x.ran(0), 1);
        x.tick(3);
        Check.due("client anew", x.client(0, 0, 0), 1);
        Check.due("its calls are gone", x.outcome(0, 1, 0), Check.BAD);
        Check.due("LETTERS stay", x.net(0), 2);
        Check.due("XIDS go on", x.invoke(0, 0, 0), 2);
        Check.due("refused", x.server(0, 9, 0), Check.BAD);
        Check.due("nothing changed", x.net(0), 3);

        Check.due("server anew", x.server(0, 0, 1), 1);
        Check.due("cells are 0", x.cell(0), 0);
        Check.due("it remembers nothing", x.net(2), 0);
        Check.due("it did nothing", x.ran(0), 0);
        Check.due("LETTERS are gone", x.net(0), 0);
        Check.due("time is 0", x.net(1), 0);
        Check.due("clients are gone", x.invoke(0, 0, 0), Check.NO);
        x.client(0, 0, 0);
        Check.due("XIDS begin at 0", x.invoke(0, 0, 0), 0);

        c.schema(1, "service S { }");
        x.client(1, 1, 0);
        x.client(2, 0, 0);
        c.schema(1, "record R { }");
        Check.due("a client goes with its schema", x.invoke(1, 0, 0), Check.NO);
        Check.due("others stay", x.outcome(0, 0, 0), 0);
        c.schema(0, "record A { } service S { }");
        Check.due("the server goes with its schema", x.tick(1), Check.NO);
        Check.due("with clients", x.outcome(0, 0, 0), Check.BAD);
        Check.due("and LETTERS", x.net(0), 0);
        Check.end();
    }
}
