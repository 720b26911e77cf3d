/** Promise 14: invoke, letter, deliver. */
public final class Promise14Letters {
    private static final String SCHEMA = "enum E { A = 1; } record A { int x @ 1; bytes y @ 2; maybe E e @ 3; } record B { int x @ 1; long l @ 2; maybe uint u @ 3; E e @ 4; one o { bool b @ 5; zint z @ 6; } } record M { A a @ 1; maybe int n @ 2; many int l @ 3; text t @ 4 = \"abc\"; map<int, int> m @ 5; ulong w @ 6 = 7; one o { bool b @ 7; bytes s @ 8; } } "
        + "service S { cell n; cell o; call k (A) B @ 3 { n = n + 1; o = in.x; out.x = n; out.l = in.y; } call f (A) B @ 0 { n = 7; fail in.x; n = 8; } call d (A) B @ 9 { n = 5; o = 7 / in.x + 7 % in.x; out.l = o; } call e (A) B @ 1000 { n = 9; out.e = in.x; } "
        + "call m (M) B @ 5 { out.l = in.a * 1000000 + in.n * 100000 + in.l * 10000 + in.t * 1000 + in.m * 100 + in.w * 10 + in.b + in.s; } "
        + "call q (A) B @ 6 { out.x = 4294967295; out.u = -1; out.e = 65537; out.b = 256; out.z = 2147483648; } "
        + "call p (A) B @ 7 { out.l = -7 / 2 * 1000 + -7 % 2 * 100 + (!0 - !5) * 10 + (1 < 2) + (2 <= 1) + (in.x == 3) - (3 != in.x) + (2 > 1) * (1 >= 2); } }"
        + " service T { call k (A) B @ 77 { } }";
    private static Check c;
    private static WireHouse x;

    public static void main(String[] args) {
        calls();
        bodies();
        codes();
        reads();
        parts();
        remembered();
        limits();
        wideBodies();
        Check.end();
    }

    private static void begin(int format) {
        c = new Check();
        x = c.house;
        Check.due("schema", c.schema(0, SCHEMA), 4);
        x.server(0, 0, format);
        x.client(0, 0, 0);
        c.read(0, 0, "A {x: 3}");
    }

    private static void calls() {
        begin(0);
        Check.due("no such client", x.invoke(3, 0, 0), Check.BAD);
        Check.due("no such message", x.invoke(0, 0, 12), Check.BAD);
        Check.due("no such call", x.invoke(0, 7, 0), Check.BAD);
        Check.due("no such call, and no message", x.invoke(0, 7, 5), Check.BAD);
        Check.due("below 0, and no client", x.invoke(1, -1, 0), Check.BAD);
        Check.due("no client", x.invoke(1, 99, 0), Check.NO);
        Check.due("no message", x.invoke(0, 0, 5), Check.NO);
        c.read(0, 1, "B {}");
        Check.due("another record", x.invoke(0, 0, 1), Check.NO);
        c.schema(1, SCHEMA);
        c.read(1, 2, "A {}");
        Check.due("another schema", x.invoke(0, 0, 2), Check.NO);
        Check.due("the XID", x.invoke(0, 0, 0), 0);
        Check.due("the next", x.invoke(0, 1, 0), 1);
        x.client(1, 0, 0);
        Check.due("of another client", x.invoke(1, 0, 0), 0);
        begin(1);
        c.read(0, 0, "A {e: 2}");
        Check.due("not to be WRITTEN", x.invoke(0, 0, 0), Check.NO);
    }

    private static void letter(int i, int to, int from, int xid, int part, int of, String body) {
        int[] due = {to, from, xid, part, of, body.length() / 2};
        for (int what = 0; what < 6; what++) {
            Check.due("letter(" + i + ", " + what + ")", x.letter(i, what), due[what]);
        }
        StringBuilder bytes = new StringBuilder();
        for (int k = 0; k < due[5]; k++) {
            bytes.append(String.format("%02x", x.letter(i, 6 + k)));
        }
        Check.due("bytes of letter " + i, bytes.toString(), body);
        Check.due("behind them", x.letter(i, 6 + due[5]), Check.BAD);
    }

    private static String mark(String name) {
        long h = 0xcbf29ce484222325L;
        for (int i = 0; i < name.length(); i++) {
            h = (h ^ name.charAt(i)) * 1099511628211L;
        }
        return String.format("%016x", h);
    }

    private static void bodies() {
        begin(0);
        x.invoke(0, 0, 0);
        letter(0, 3, 0, 0, 0, 1, mark("S") + "00000000" + "00000003" + "0803");
        c.read(0, 1, "A {x: -1, y: \"" + Check.times("a", 40) + "\"}");
        x.invoke(0, 3, 1);
        String body = mark("S") + "00000001" + "000003e8" + "08ffffffffffffffffff01" + "1228" + Check.times("61", 40);
        letter(1, 3, 0, 1, 0, 2, body.substring(0, 96));
        letter(2, 3, 0, 1, 1, 2, body.substring(96));
        Check.due("none such", x.letter(3, 0), Check.BAD);
        Check.due("below 0", x.letter(0, -1), Check.BAD);
        Check.due("no letter", x.deliver(3), Check.BAD);
        Check.due("no letter", x.deliver(-1), Check.BAD);
        Check.due("deliver: the answer comes", x.deliver(0), 3);
        letter(2, 0, 3, 0, 0, 1, "00000000" + "00000000" + "0801");
        Check.due("of the answer nothing comes", x.deliver(2), 2);
        Check.due("ANSWERED", x.outcome(0, 0, 0), 1);
        // 48 bytes are one part
        begin(0);
        c.read(0, 1, "A {y: \"" + Check.times("a", 30) + "\"}");
        x.invoke(0, 0, 1);
        Check.due("48 bytes", x.net(0), 1);
        c.put(1, "y = \"" + Check.times("a", 31) + "\"");
        x.invoke(0, 0, 1);
        Check.due("49 bytes", x.net(0), 3);
    }

    /** Calls a call and brings all letters: what came of it. */
    private static int call(int client, int j, int m, int what) {
        int xid = x.invoke(client, j, m);
        for (int i = 0; i < 200 && x.net(0) > 0; i++) {
            x.deliver(0);
        }
        return x.outcome(client, xid, what);
    }

    private static void codes() {
        for (int format = 0; format < 3; format++) {
            begin(format);
            Check.due("ANSWERED", call(0, 0, 0, 0), 1);
            Check.due("cells", x.cell(0) * 10 + x.cell(1), 13);
            Check.due("fail", call(0, 1, 0, 1), 4);
            Check.due("cells as before", x.cell(0), 1);
            c.read(0, 1, "A {}");
            Check.due("does not fail", call(0, 1, 1, 1), 0);
            Check.due("cells", x.cell(0), 8);
            Check.due("by 0", call(0, 2, 1, 1), 5);
            Check.due("cells as before", x.cell(0), 8);
            Check.due("not by 0", call(0, 2, 0, 1), 0);
            Check.due("7 / 3 + 7 % 3", x.cell(1), 3);
            Check.due("out can't be WRITTEN in LINEAR", call(0, 3, 0, 1), format == 1 ? 6 : 0);
            Check.due("cells as before", x.cell(0), format == 1 ? 5 : 9);
            Check.due("DONE with codes, too", x.ran(0) + x.ran(1) * 10 + x.ran(2) * 100 + x.ran(3) * 1000, 1221);
            x.client(1, 0, 1);
            Check.due("another service's NAME", call(1, 0, 0, 1), 1);
            Check.due("FAILED", x.outcome(1, 0, 0), 2);
            // a service S that has another call, other records, or another second record
            c.schema(1, "record A { int x @ 1; } record B { int x @ 1; } service S { call k (A) B @ 4 { } call k2 (A) B @ 3 { } }");
            x.client(2, 1, 0);
            c.read(1, 2, "A {x: 5}");
            Check.due("no call of that number", call(2, 0, 2, 1), 2);
            // a STREAM leaves out what is not SET, and what it has not is unknown
            Check.due("can't be READ", call(2, 1, 2, 1), format == 0 ? 0 : format == 1 ? 3 : 0);
            Check.due("not DONE with a code below 4", x.ran(0), format == 1 ? 1 : 2);
            c.schema(1, "enum E { A = 1; } record A { int x @ 1; bytes y @ 2; maybe E e @ 3; } record B { int x @ 1; text l @ 2; R r @ 3; maybe R q @ 4; } record R { } service S { call k (A) B @ 3 { } }");
            x.client(2, 1, 0);
            c.read(1, 2, "A {x: 5, y: \"a\"}");
            Check.due("the answer can't be READ", call(2, 0, 2, 1), format == 1 ? 7 : 0);
        }
    }

    private static long answer(int j, String message, String path) {
        c.read(0, 0, message);
        int xid = x.invoke(0, j, 0);
        for (int i = 0; i < 200 && x.net(0) > 0; i++) {
            x.deliver(0);
        }
        Check.due("ANSWERED", x.outcome(0, xid, 0), 1);
        x.take(0, xid, 1);
        c.ask(1, 0, path);
        return x.number();
    }

    private static void reads() {
        begin(0);
        Check.due("of nothing", answer(4, "M {}", "l"), 3070);
        Check.due("of all", answer(4, "M {a: {}, n: 2, l: [1, 2], t: \"\", m: <1: 1>, w: 0, s: \"xy\"}", "l"), 1220102);
        Check.due("a bool", answer(4, "M {b: true}", "l"), 3071);
        Check.due("a call of o", answer(5, "A {}", "x"), -1);
        c.ask(1, 0, "u");
        Check.due("uint", x.number(), 4294967295L);
        c.ask(1, 0, "e");
        Check.due("enum", x.number(), 1);
        Check.due("the one's first went", c.ask(1, 0, "b"), 0);
        c.ask(1, 0, "z");
        Check.due("zint", x.number(), -2147483648L);
        Check.due("exps", answer(6, "A {x: 3}", "l"), -3000 - 100 + 10 + 1 + 1);
        Check.due("exps", answer(6, "A {x: 4}", "l"), -3000 - 100 + 10 + 1 - 1);
        Check.due("schema", c.schema(0, "record A { int x @ 1; } record B { long l @ 1; } service S { call k (A) B @ 1 { out.l = (in.x < 3) + (in.x <= 3) * 10 + (in.x > 3) * 100 + (in.x >= 3) * 1000 + (in.x == 3) * 10000 + (in.x != 3) * 100000; } }"), 2);
        x.server(0, 0, 0);
        x.client(0, 0, 0);
        Check.due("below", answer(0, "A {x: 2}", "l"), 100011);
        Check.due("the same", answer(0, "A {x: 3}", "l"), 11010);
        Check.due("above", answer(0, "A {x: 4}", "l"), 101100);
        largeThere();
    }

    /** What is bytes to a client is a LARGE list to the server, and the other way. */
    private static void largeThere() {
        String bytes = "record A { bytes l @ 1; } record B { maybe int l @ 1; } service S { call k (A) B @ 1 { out.l = 5; } }";
        String list = "record A { many bool l @ 1; } record B { text l @ 1; } service S { call k (A) B @ 1 { } }";
        c.schema(0, list);
        c.schema(1, bytes);
        x.server(0, 0, 0);
        x.client(0, 1, 0);
        c.read(1, 0, "A {}");
        c.put(0, "l = \"" + Check.times("\\x01", 58) + "\"");
        Check.due("58 items", call(0, 0, 0, 1), 0);
        // 400 items and the field are 401 VALUES
        c.load(0, "0a9003" + Check.times("01", 400));
        Check.due("400 bytes", x.decode(1, 0, 0, 0, 0), 1);
        Check.due("LARGE", call(0, 0, 0, 1), 3);
        c.load(0, "0a8f03" + Check.times("01", 399));
        x.decode(1, 0, 0, 0, 0);
        Check.due("not LARGE", call(0, 0, 0, 1), 0);
        // the first call of the first client gets a 5, which it would read as how many bytes a text has
        c.schema(0, "record A { } record B { int l @ 1; } service S { call k (A) B @ 1 { out.l = 5; } }");
        c.schema(1, "record A { } record B { text l @ 1; } service S { call k (A) B @ 1 { } }");
        x.server(0, 0, 1);
        x.client(0, 1, 0);
        c.read(1, 0, "A {}");
        Check.due("the first call", x.invoke(0, 0, 0), 0);
        x.deliver(0);
        x.deliver(0);
        Check.due("FAILED", x.outcome(0, 0, 0), 2);
        Check.due("by 7", x.outcome(0, 0, 1), 7);
    }

    private static void big(int m, int bytes) {
        StringBuilder text = new StringBuilder("A {y: \"");
        c.read(0, m, text.append(Check.times("a", bytes)).append("\"}").toString());
    }

    private static void parts() {
        begin(0);
        big(1, 60);
        x.client(1, 0, 0);
        for (int i = 0; i < 5; i++) {
            x.invoke(i % 2, 0, 1);
        }
        Check.due("5 calls of 2 parts", x.net(0), 10);
        x.deliver(1);
        Check.due("a part is kept", x.net(3), 1);
        Check.due("no answer yet", x.net(0), 9);
        x.twice(0);
        x.deliver(0);
        Check.due("all parts are there, in another order", x.net(3), 0);
        Check.due("the answer", x.letter(x.net(0) - 1, 0), 0);
        Check.due("DONE once", x.ran(0), 1);
        int n = x.net(0);
        x.deliver(n - 2);
        Check.due("part 0 again: the answer is sent again", x.net(0), n);
        Check.due("DONE once", x.ran(0), 1);

        begin(0);
        big(1, 60);
        for (int i = 0; i < 6; i++) {
            x.invoke(0, 0, 1);
        }
        for (int i = 0; i < 4; i++) {
            x.deliver(i);
        }
        Check.due("parts of four calls", x.net(3), 4);
        // 0 is touched again, so 1 was not for longest
        x.invoke(0, 0, 1);
        x.twice(0);
        Check.due("its second part", x.letter(0, 3), 1);
        c.read(0, 2, "A {}");
        x.invoke(0, 0, 2);
        int last = x.net(0) - 1;
        Check.due("one that is all of its call", x.letter(last, 4), 1);
        x.deliver(last);
        Check.due("one of the four went", x.net(3), 3);
        x.deliver(0);
        Check.due("the first was gone: its part is kept anew", x.net(3), 4);
        x.deliver(0);
        Check.due("the second is all there", x.net(3), 3);
        Check.due("DONE", x.ran(0), 2);
    }

    private static void remembered() {
        begin(0);
        for (int i = 0; i < 7; i++) {
            x.invoke(0, 0, 0);
            x.twice(0);
            x.lose(0);
        }
        for (int i = 0; i < 7; i++) {
            x.twice(i);
        }
        for (int i = 0; i < 7; i++) {
            x.deliver(0);
        }
        Check.due("7 calls DONE", x.ran(0), 7);
        Check.due("6 answers", x.net(2), 6);
        x.deliver(1);
        Check.due("the second is remembered", x.ran(0), 7);
        x.deliver(0);
        Check.due("the first is not", x.ran(0), 8);
    }

    private static void limits() {
        begin(0);
        for (int i = 0; i < 40; i++) {
            Check.due("a call", x.invoke(0, 0, 0), i);
        }
        Check.due("the 41st", x.invoke(0, 0, 0), Check.FULL);
        x.client(0, 0, 0);
        Check.due("anew", x.invoke(0, 0, 0), 40);
        for (int i = 0; i < 19; i++) {
            x.invoke(0, 0, 0);
        }
        Check.due("60 LETTERS", x.net(0), 60);
        x.invoke(0, 0, 0);
        Check.due("one more is lost", x.net(5), 1);
        // a BODY of 4000 bytes, and of more
        c.schema(1, "record A { many fixlong l @ 1; many bool b @ 2; } service S { call k (A) A @ 1 { } }");
        begin(1);
        c.schema(1, "record L { long a @ 1; long b @ 2; } record A { many L l @ 1; int x @ 2; many bool b @ 3; } service S { call k (A) A @ 1 { } }");
        x.client(1, 1, 0);
        c.read(1, 1, "A {l: [{}" + Check.times(",{}", 246) + "], b: [true, true, true, true, true]}");
        Check.due("as many as may be", x.encode(1, 1, 0), 247 * 16 + 12 + 20);
        Check.due("4000 bytes", x.invoke(1, 0, 1), 0);
        Check.due("of 84 parts", x.letter(0, 4), 84);
        Check.due("24 of them were lost", x.net(5), 24);
        c.put(1, "b[5] = true");
        Check.due("4004 bytes", x.invoke(1, 0, 1), Check.FULL);
    }

    /** A BODY of many records with many fields that are not SET is READ, in all formats. */
    private static void wideBodies() {
        StringBuilder z = new StringBuilder("record Z { ");
        for (int i = 1; i <= 24; i++) {
            z.append("bool f" + i + " @ " + i + " = true; ");
        }
        int[] most = {399, 29, 350};
        for (int format = 0; format < 3; format++) {
            c = new Check();
            x = c.house;
            c.schema(0, z + "} record Q { many Z a @ 1; } record O { int n @ 1; } service S { call k (Q) O @ 1 { out.n = in.a; } }");
            x.server(0, 0, format);
            x.client(0, 0, 0);
            int n = most[format];
            c.read(0, 0, "Q {a: [{}" + Check.times(",{}", n - 1) + "]}");
            Check.due("the call", x.invoke(0, 0, 0), 0);
            Check.due("all LETTERS have room", x.net(5), 0);
            int letters = x.net(0);
            for (int i = 0; i <= letters; i++) {
                x.deliver(0);
            }
            Check.due("ANSWERED in format " + format, x.outcome(0, 0, 0), 1);
            Check.due("the code", x.outcome(0, 0, 1), 0);
            x.take(0, 0, 1);
            Check.due("how many items", c.ask(1, 0, "n"), 1);
            Check.due("all", x.number(), n);
        }
    }
}
