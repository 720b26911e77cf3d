/** The example of README.md: each call answers what stands behind it there. */
public final class ReadmeExample {
    public static void main(String[] args) {
        Check c = new Check();
        WireHouse house = c.house;
        c.tape("record R { int x @ 1; text t @ 2; } service S { cell n; call add (R) R @ 1 { n = n + in.x; out.x = n; } }");
        Check.due("schema", house.schema(0), 1);
        c.tape("R {x: 5, t: \"five\"}");
        Check.due("read", house.read(0, 3), 2);
        Check.due("encode", house.encode(3, 0, 1), 8);
        Check.due("decode", house.decode(0, 0, 0, 1, 4), 2);
        c.tape("x = 7");
        Check.due("put", house.put(4), 2);
        Check.due("differ", house.differ(3, 4), 1);
        Check.due("server", house.server(0, 0, 2), 1);
        Check.due("client", house.client(0, 0, 0), 1);
        Check.due("invoke", house.invoke(0, 0, 4), 0);
        for (int turn = 0; turn < 100 && house.net(0) > 0; turn++) {
            house.deliver(0);
        }
        Check.due("no LETTERS", house.net(0), 0);
        Check.due("outcome", house.outcome(0, 0, 0), 1);
        Check.due("take", house.take(0, 0, 5), 1);
        c.printed("the answer", 5, "R{x:7}");
        c.tape("R {x: 5000000000}");
        Check.due("read", house.read(0, 6), -17);
        Check.due("place", house.place(), 6);
        Check.end();
    }
}
