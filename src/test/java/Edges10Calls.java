/** Section 10 of the document: calls over a net, what is lost, forgotten, sent again, given up. */
public final class Edges10Calls {
    private static final String TYPES = "enum E { A = 1; } record A { int x @ 1; bytes y @ 2; maybe E e @ 3; } record B { long a @ 1; long b @ 2; long c @ 3; long d @ 4; long e @ 5; } ";
    private static final String SCHEMA = TYPES + "service S { cell n; cell o; call k (A) B @ 3 { n = n + 1; o = in.x; out.a = n; }"
        + " call z (A) B @ 0 { n = n + 1; out.a = n - 2; out.b = n - 2; out.c = n - 2; out.d = n - 2; out.e = n - 2; }"
        + " call w (A) B @ 1000 { n = n + 1; out.a = -n; out.b = -n; out.c = -n; out.d = -n; out.e = -n; }"
        + " call f (A) B @ 5 { n = n + 1; fail in.x; o = 1 / in.x; } } service T { call k (A) B @ 3 { } }";
    private static Check c;
    private static WireHouse x;

    public static void main(String[] args) {
        noServer();
        serverRefused();
        serverAnew();
        clientAnew();
        clientRefused();
        schemaGoes();
        clientGoes();
        invokeRefused();
        fortyCalls();
        bodies();
        partsOf48();
        mostBody();
        fullNet();
        fullNetDelivers();
        letters();
        keptParts();
        keptTouched();
        keptWhole();
        partsTwice();
        partsByClient();
        lastOfAll();
        recordsOfCalls();
        remembersSix();
        remembersBytes();
        remembersOldest();
        remembersByClient();
        partsOfRemembered();
        codes();
        codesFirst();
        code6();
        cellsAsBefore();
        answers();
        answersOfOthers();
        answersMixed();
        ticks();
        givenUp();
        tickRefused();
        answeredBetween();
        crashes();
        numbersRunOver();
        operators();
        reads();
        lowestBits();
        outcomeRefused();
        takes();
        counts();
        Check.end();
    }

    private static void begin(int format) {
        c = new Check();
        x = c.house;
        Check.due("schema", c.schema(0, SCHEMA), 3);
        Check.due("server", x.server(0, 0, format), 1);
        Check.due("client", x.client(0, 0, 0), 1);
        // message 0 makes one part, message 1 two
        c.read(0, 0, "A{x:3}");
        c.read(0, 1, "A{x:3,y:\"" + Check.times("a", 30) + "\"}");
    }

    private static void noServer() {
        c = new Check();
        x = c.house;
        c.schema(0, SCHEMA);
        Check.due("tick", x.tick(1), Check.NO);
        Check.due("crash", x.crash(), Check.NO);
        Check.due("ran", x.ran(0), Check.NO);
        Check.due("ran of more calls than it may have", x.ran(10), Check.NO);
        Check.due("ran below 0", x.ran(-1), Check.BAD);
        Check.due("cell", x.cell(0), 0);
        Check.due("client", x.client(0, 0, 0), Check.NO);
        Check.due("outcome", x.outcome(0, 0, 0), Check.BAD);
        Check.due("take", x.take(0, 0, 0), Check.BAD);
        Check.due("letter", x.letter(0, 0), Check.BAD);
        Check.due("deliver", x.deliver(0), Check.BAD);
        Check.due("lose", x.lose(0), Check.BAD);
        Check.due("twice", x.twice(0), Check.BAD);
        c.read(0, 0, "A{}");
        Check.due("invoke", x.invoke(0, 0, 0), Check.NO);
        for (int what = 0; what < 6; what++) {
            Check.due("net(" + what + ")", x.net(what), 0);
        }
    }

    private static void serverRefused() {
        begin(0);
        x.invoke(0, 0, 0);
        x.invoke(0, 0, 0);
        x.deliver(0);
        x.tick(3);
        for (int[] b : new int[][] {{-1, 0, 0}, {4, 0, 0}, {0, -1, 0}, {0, 2, 0}, {0, 0, -1}, {0, 0, 3}, {1, -1, 0}, {1, 0, 3}, {4, 9, 9}}) {
            Check.due("BAD", x.server(b[0], b[1], b[2]), Check.BAD);
        }
        Check.due("NO", x.server(1, 0, 2), Check.NO);
        Check.due("NO of any service", x.server(1, 99, 0), Check.NO);
        Check.due("nothing changed", x.cell(0) * 100000 + x.net(0) * 10000 + x.net(1) * 1000 + x.net(2) * 100 + x.ran(0) * 10 + x.outcome(0, 0, 0), 123110);
    }

    private static void serverAnew() {
        begin(0);
        for (int i = 0; i < 58; i++) {
            x.invoke(0, 0, 0);
        }
        Check.due("40 calls", x.net(0), 40);
        x.client(0, 0, 0);
        for (int i = 0; i < 22; i++) {
            x.invoke(0, 0, 0);
        }
        Check.due("2 LETTERS were lost", x.net(5), 2);
        x.deliver(0);
        x.deliver(0);
        x.invoke(0, 0, 1);
        x.deliver(58);
        x.tick(5);
        Check.due("server", x.server(0, 0, 2), 1);
        for (int what = 0; what < 6; what++) {
            Check.due("net(" + what + ") is 0", x.net(what), 0);
        }
        Check.due("cells are 0", x.cell(0), 0);
        Check.due("cells are 0", x.cell(1), 0);
        Check.due("none was DONE", x.ran(0), 0);
        Check.due("clients are gone", x.outcome(0, 0, 0), Check.BAD);
        Check.due("no client", x.invoke(0, 0, 0), Check.NO);
        x.client(0, 0, 0);
        x.client(1, 0, 0);
        Check.due("XIDS begin at 0", x.invoke(0, 0, 0), 0);
        Check.due("those of each", x.invoke(1, 0, 0), 0);
        Check.due("no calls of before", x.outcome(0, 1, 0), Check.BAD);
    }

    private static void clientAnew() {
        begin(0);
        Check.due("XID", x.invoke(0, 0, 0), 0);
        Check.due("XID", x.invoke(0, 0, 0), 1);
        x.client(0, 0, 1);
        Check.due("its calls are gone", x.outcome(0, 0, 0), Check.BAD);
        Check.due("its calls are gone", x.outcome(0, 1, 0), Check.BAD);
        Check.due("LETTERS stay", x.net(0), 2);
        Check.due("XIDS go on", x.invoke(0, 0, 0), 2);
        Check.due("its own", x.outcome(0, 2, 0), 0);
        Check.due("not one of before", x.outcome(0, 1, 0), Check.BAD);
        x.client(0, 0, 0);
        Check.due("XIDS go on", x.invoke(0, 0, 0), 3);
        // the answer to a call that is gone
        Check.due("deliver", x.deliver(0), 4);
        Check.due("the answer comes to nothing", x.deliver(3), 3);
        Check.due("its calls are gone", x.outcome(0, 0, 0), Check.BAD);
        Check.due("the other WAITS", x.outcome(0, 3, 0), 0);
    }

    private static void clientRefused() {
        begin(0);
        x.invoke(0, 0, 0);
        c.schema(1, "record R { }");
        for (int[] b : new int[][] {{-1, 0, 0}, {3, 0, 0}, {0, -1, 0}, {0, 4, 0}, {0, 0, -1}, {0, 0, 2}, {0, 1, 0}, {3, 2, 0}, {0, 2, -1}}) {
            Check.due("BAD", x.client(b[0], b[1], b[2]), Check.BAD);
        }
        Check.due("NO", x.client(0, 2, 0), Check.NO);
        Check.due("NO of any service", x.client(0, 2, 99), Check.NO);
        Check.due("its calls stay", x.outcome(0, 0, 0), 0);
        Check.due("the last client", x.client(2, 0, 1), 1);
    }

    private static void schemaGoes() {
        begin(0);
        c.schema(1, SCHEMA);
        x.client(1, 1, 0);
        x.invoke(0, 0, 0);
        c.fault("with a fault all stays", c.schema(0, "record A { } ?"), 1, 13);
        Check.due("LETTERS", x.net(0), 1);
        Check.due("the client", x.outcome(0, 0, 0), 0);
        Check.due("the message", x.told(0, 0), 0);
        Check.due("the same schema anew", c.schema(0, SCHEMA), 3);
        Check.due("no server", x.tick(1), Check.NO);
        Check.due("no LETTERS", x.net(0), 0);
        Check.due("no client", x.outcome(0, 0, 0), Check.BAD);
        c.read(1, 1, "A{}");
        Check.due("nor one of another schema", x.invoke(1, 0, 1), Check.NO);
        Check.due("no message", x.told(0, 0), Check.NO);
        // another schema's is not theirs
        begin(0);
        x.invoke(0, 0, 0);
        c.schema(1, SCHEMA);
        Check.due("the server stays", x.tick(1), 1);
        Check.due("the client stays", x.outcome(0, 0, 0), 0);
        Check.due("the message stays", x.told(0, 0), 0);
    }

    /** A client goes with its schema; LETTERS stay. */
    private static void clientGoes() {
        begin(0);
        c.schema(1, SCHEMA);
        x.client(1, 1, 0);
        c.read(1, 2, "A{x:5}");
        Check.due("XID", x.invoke(1, 0, 2), 0);
        Check.due("XID", x.invoke(1, 0, 2), 1);
        c.schema(1, SCHEMA);
        Check.due("no client", x.outcome(1, 0, 0), Check.BAD);
        c.read(1, 2, "A{x:5}");
        Check.due("no client", x.invoke(1, 0, 2), Check.NO);
        Check.due("LETTERS stay", x.net(0), 2);
        Check.due("the answer is sent", x.deliver(0), 2);
        Check.due("it was DONE", x.ran(0), 1);
        Check.due("to no client", x.deliver(1), 1);
        Check.due("nothing is sent again", x.tick(20), 20);
        Check.due("LETTERS", x.net(0), 1);
        x.client(1, 1, 0);
        Check.due("XIDS go on", x.invoke(1, 0, 2), 2);
    }

    private static void invokeRefused() {
        begin(1);
        c.read(0, 2, "B{}");
        c.read(0, 3, "A{e:0}");
        c.schema(1, SCHEMA);
        c.read(1, 4, "A{}");
        for (int[] b : new int[][] {{-1, 0, 0}, {3, 0, 0}, {0, -1, 0}, {0, 4, 0}, {0, 0, -1}, {0, 0, 12}, {0, 4, 7}, {1, -1, 0}, {1, 0, 12}, {3, 9, 9}}) {
            Check.due("BAD", x.invoke(b[0], b[1], b[2]), Check.BAD);
        }
        for (int[] b : new int[][] {{1, 0, 0}, {1, 99, 0}, {0, 0, 7}, {0, 0, 2}, {0, 0, 3}, {0, 0, 4}, {2, 9, 7}}) {
            Check.due("NO", x.invoke(b[0], b[1], b[2]), Check.NO);
        }
        Check.due("no LETTERS", x.net(0), 0);
        Check.due("the first XID", x.invoke(0, 3, 0), 0);
    }

    private static void fortyCalls() {
        begin(0);
        c.read(0, 2, "B{}");
        for (int i = 0; i < 40; i++) {
            if (i % 10 == 5) {
                Check.due("what is refused is no call", x.invoke(0, 0, 2), Check.NO);
            }
            Check.due("a call", x.invoke(0, i % 4, 0), i);
        }
        Check.due("the 41st", x.invoke(0, 0, 0), Check.FULL);
        Check.due("NO ahead of FULL", x.invoke(0, 0, 2), Check.NO);
        Check.due("BAD ahead of both", x.invoke(0, 4, 2), Check.BAD);
        Check.due("no LETTER more", x.net(0), 40);
        Check.due("the last", x.outcome(0, 39, 3), 3);
        Check.due("none behind", x.outcome(0, 40, 0), Check.BAD);
        x.client(1, 0, 0);
        Check.due("another client", x.invoke(1, 0, 0), 0);
        for (int i = 0; i < 41; i++) {
            x.lose(0);
        }
        x.client(0, 0, 0);
        for (int i = 0; i < 40; i++) {
            Check.due("40 more", x.invoke(0, 0, 0), 40 + i);
        }
        Check.due("the 41st", x.invoke(0, 0, 0), Check.FULL);
        Check.due("the last", x.outcome(0, 79, 0), 0);
    }

    private static String mark(String name) {
        long h = -3750763034362895579L;
        for (int i = 0; i < name.length(); i++) {
            h = (h ^ name.charAt(i)) * 1099511628211L;
        }
        return String.format("%016x", h);
    }

    private static String body(int i) {
        StringBuilder hex = new StringBuilder();
        int n = x.letter(i, 5);
        for (int k = 0; k < n; k++) {
            hex.append(String.format("%02x", x.letter(i, 6 + k)));
        }
        return hex.toString();
    }

    private static void bodies() {
        for (int format = 0; format < 3; format++) {
            begin(format);
            c.read(0, 0, "A{x:-2}");
            x.encode(0, format, 3);
            x.invoke(0, 2, 0);
            x.invoke(0, 1, 0);
            String message = c.hex(3);
            Check.due("MARK, XID, number, message", body(0), mark("S") + "00000000" + "000003e8" + message);
            Check.due("the next", body(1), mark("S") + "00000001" + "00000000" + message);
            x.client(1, 0, 1);
            x.invoke(1, 0, 0);
            Check.due("of another service", body(2), mark("T") + "00000000" + "00000003" + message);
            x.deliver(1);
            c.read(0, 5, "B{a:-1,b:-1,c:-1,d:-1,e:-1}");
            x.encode(5, format, 3);
            String answer = "00000001" + "00000000" + c.hex(3);
            StringBuilder parts = new StringBuilder();
            for (int i = 2; i < x.net(0); i++) {
                parts.append(body(i));
            }
            Check.due("XID, 0, message", parts.toString(), answer);
            x.deliver(1);
            Check.due("XID and a code alone", body(x.net(0) - 1), "00000000" + "00000001");
        }
    }

    private static void partsOf48() {
        // a BODY of 16 and the message's bytes, of a STREAM 2 more than y has
        int[] bytes = {0, 29, 30, 31, 77, 78, 79};
        int[] parts = {1, 1, 1, 2, 2, 2, 3};
        int[] last = {16, 47, 48, 1, 47, 48, 1};
        for (int i = 0; i < bytes.length; i++) {
            begin(0);
            c.load(0, bytes[i] == 0 ? "" : "12" + String.format("%02x", bytes[i]) + Check.times("61", bytes[i]));
            x.decode(0, 1, 0, 0, 0);
            x.invoke(0, 0, 0);
            Check.due("LETTERS of " + bytes[i], x.net(0), parts[i]);
            for (int k = 0; k < parts[i]; k++) {
                int[] due = {3, 0, 0, k, parts[i], k == parts[i] - 1 ? last[i] : 48};
                for (int what = 0; what < 6; what++) {
                    Check.due("letter(" + k + ", " + what + ")", x.letter(k, what), due[what]);
                }
            }
            for (int k = 0; k < parts[i]; k++) {
                x.deliver(0);
            }
            Check.due("it is DONE", x.ran(0), 1);
        }
    }

    private static void mostBody() {
        c = new Check();
        x = c.house;
        c.schema(0, "record A { map<long, long> m @ 1; bool b @ 2; long l @ 3; } service S { call k (A) A @ 1 { } }");
        x.server(0, 0, 0);
        x.client(0, 0, 0);
        StringBuilder items = new StringBuilder("-1:-1");
        for (int i = 2; i <= 166; i++) {
            items.append(",-").append(i).append(":-1");
        }
        c.read(0, 0, "A{m:<" + items + ">}");
        Check.due("3984 bytes", x.encode(0, 0, 3), 3984);
        c.put(0, "b = true");
        Check.due("a BODY of 4002", x.invoke(0, 0, 0), Check.FULL);
        Check.due("no LETTERS", x.net(0) + x.net(5), 0);
        c.put(0, "b = false");
        Check.due("of 4000, the first XID", x.invoke(0, 0, 0), 0);
        Check.due("84 parts", x.letter(59, 4), 84);
        Check.due("60 have room", x.net(0), 60);
        Check.due("the others are lost", x.net(5), 24);
        Check.due("the first 60", x.letter(59, 3), 59);
        // of 4001: one item has a byte less, and two bytes more
        c.remove(0, "m[-166]");
        c.put(0, "m[34359738367] = -1");
        Check.due("3978 bytes", x.encode(0, 0, 3), 3984 - 5);
        c.put(0, "l = 2097151");
        Check.due("and 4", x.encode(0, 0, 3), 3983);
        Check.due("a BODY of 3999", x.invoke(0, 0, 0), 1);
        c.put(0, "l = 2097152");
        Check.due("a BODY of 4000", x.invoke(0, 0, 0), 2);
        c.put(0, "l = 268435456");
        Check.due("a BODY of 4001", x.invoke(0, 0, 0), Check.FULL);
    }

    private static void fullNet() {
        begin(0);
        x.client(1, 0, 0);
        for (int i = 0; i < 40; i++) {
            x.invoke(0, 0, 0);
        }
        for (int i = 0; i < 19; i++) {
            x.invoke(1, 0, 0);
        }
        Check.due("59", x.net(0), 59);
        Check.due("twice", x.twice(0), 60);
        Check.due("twice at 60", x.twice(0), Check.FULL);
        Check.due("BAD ahead of FULL", x.twice(60), Check.BAD);
        Check.due("none was lost", x.net(5), 0);
        Check.due("a call", x.invoke(1, 0, 0), 19);
        Check.due("its LETTER is lost", x.net(5), 1);
        Check.due("60", x.net(0), 60);
        Check.due("it WAITS", x.outcome(1, 19, 0), 0);
        Check.due("it was sent once", x.outcome(1, 19, 2), 1);
        Check.due("lose", x.lose(59), 59);
        Check.due("a call of two parts", x.invoke(1, 0, 1), 20);
        Check.due("the first has room", x.letter(59, 2), 20);
        Check.due("part 0", x.letter(59, 3), 0);
        Check.due("the second is lost", x.net(5), 2);
        // all 60 are sent again, none has room, but those that were lost count
        Check.due("8 ticks", x.tick(8), 8);
        Check.due("60", x.net(0), 60);
        Check.due("all were lost", x.net(5), 2 + 40 + 20 + 2);
        Check.due("twice sent", x.outcome(0, 39, 2), 2);
    }

    /** A LETTER is gone ahead of what comes of it. */
    private static void fullNetDelivers() {
        begin(0);
        c.read(0, 2, "A{}");
        x.invoke(0, 0, 2);
        x.invoke(0, 2, 2);
        for (int i = 2; i < 60; i++) {
            x.twice(0);
        }
        Check.due("deliver at 60", x.deliver(0), 60);
        Check.due("the answer has room", x.letter(59, 0), 0);
        Check.due("none was lost", x.net(5), 0);
        // an answer of two parts has room for one
        Check.due("deliver at 60", x.deliver(0), 60);
        Check.due("its first part", x.letter(59, 4) * 10 + x.letter(59, 3), 20);
        Check.due("the second was lost", x.net(5), 1);
        // what is remembered is sent again
        Check.due("deliver at 60", x.deliver(0), 60);
        Check.due("DONE once", x.ran(0), 1);
        Check.due("none more was lost", x.net(5), 1);
    }

    private static void letters() {
        begin(0);
        x.invoke(0, 0, 1);
        x.invoke(0, 0, 0);
        for (int i : new int[] {-1, 3, Integer.MAX_VALUE, Integer.MIN_VALUE}) {
            Check.due("letter", x.letter(i, 0), Check.BAD);
            Check.due("deliver", x.deliver(i), Check.BAD);
            Check.due("lose", x.lose(i), Check.BAD);
            Check.due("twice", x.twice(i), Check.BAD);
        }
        Check.due("all stay", x.net(0), 3);
        Check.due("the last byte", x.letter(0, 6 + 47) >= 0 ? 1 : 0, 1);
        Check.due("behind it", x.letter(0, 6 + 48), Check.BAD);
        Check.due("what below 0", x.letter(0, -1), Check.BAD);
        Check.due("far behind", x.letter(0, Integer.MAX_VALUE), Check.BAD);
        Check.due("of the second, 2 bytes", x.letter(1, 6 + 1) >= 0 ? x.letter(1, 6 + 2) : 0, Check.BAD);
        Check.due("twice", x.twice(0), 4);
        Check.due("behind all others", x.letter(3, 5) * 100 + x.letter(3, 2) * 10 + x.letter(3, 3), 4800);
        Check.due("lose of the second", x.lose(1), 3);
        Check.due("the others stay in order", x.letter(0, 2) * 100 + x.letter(1, 2) * 10 + x.letter(2, 2), 10);
        Check.due("not lost for want of room", x.net(5), 0);
    }

    /** Parts of 4 calls are kept; of one more the one that was not touched for longest goes. */
    private static void keptParts() {
        begin(0);
        for (int i = 0; i < 6; i++) {
            x.invoke(0, 0, 1);
        }
        // parts 0 of calls 0 .. 3
        for (int i = 0; i < 4; i++) {
            x.deliver(i);
            Check.due("kept", x.net(3), i + 1);
        }
        // 1 1 1 1 0 1 0 1 remain; call 4 comes, call 0 goes
        x.deliver(4);
        Check.due("four again", x.net(3), 4);
        x.deliver(1);
        Check.due("call 1 is all there", x.ran(0), 1);
        Check.due("three", x.net(3), 3);
        x.deliver(0);
        Check.due("call 0 is not", x.ran(0), 1);
        Check.due("its part 1 is kept", x.net(3), 4);
    }

    private static void keptTouched() {
        begin(0);
        for (int i = 0; i < 5; i++) {
            x.invoke(0, 0, 1);
        }
        x.twice(0);
        // parts 0 of calls 0 .. 3, then that of call 0 again, then that of call 4
        for (int i = 0; i < 4; i++) {
            x.deliver(i);
        }
        Check.due("part 0 of call 0 once more", x.letter(6, 2) * 10 + x.letter(6, 3), 0);
        x.deliver(6);
        Check.due("four", x.net(3), 4);
        x.deliver(4);
        Check.due("four", x.net(3), 4);
        x.deliver(0);
        Check.due("call 0 was touched: it is all there", x.ran(0), 1);
        x.deliver(0);
        Check.due("call 1 went", x.ran(0), 1);
        Check.due("its part 1 is kept alone", x.net(3), 4);
    }

    /** Also when this part is all of its call. */
    private static void keptWhole() {
        begin(0);
        for (int i = 0; i < 4; i++) {
            x.invoke(0, 0, 1);
        }
        x.invoke(0, 0, 0);
        x.invoke(0, 0, 0);
        for (int i = 0; i < 4; i++) {
            x.deliver(i);
        }
        Check.due("four", x.net(3), 4);
        x.deliver(4);
        Check.due("DONE", x.ran(0), 1);
        Check.due("call 0 went", x.net(3), 3);
        x.deliver(4);
        Check.due("there was room", x.net(3), 3);
        Check.due("DONE", x.ran(0), 2);
        x.deliver(1);
        Check.due("call 1 is all there", x.ran(0), 3);
        x.deliver(0);
        Check.due("call 0 is not", x.ran(0), 3);
    }

    private static void partsTwice() {
        begin(0);
        x.invoke(0, 0, 1);
        x.twice(0);
        x.twice(0);
        x.deliver(0);
        Check.due("part 0 twice", x.deliver(1), 2);
        Check.due("not all there", x.ran(0), 0);
        Check.due("part 1", x.deliver(0), 2);
        Check.due("DONE", x.ran(0), 1);
        Check.due("part 0 once more: the answer is sent again", x.deliver(0), 2);
        Check.due("DONE once", x.ran(0), 1);
        Check.due("it keeps nothing", x.net(3), 0);
        // of three parts the second one twice
        begin(0);
        c.load(3, "0803 1264" + Check.times("61", 100));
        x.decode(0, 1, 0, 3, 1);
        x.invoke(0, 0, 1);
        Check.due("three parts", x.letter(0, 4), 3);
        x.twice(1);
        x.deliver(1);
        x.deliver(2);
        Check.due("two are there", x.net(3), 1);
        Check.due("not all", x.deliver(0), 1);
        Check.due("not DONE", x.ran(0), 0);
        x.deliver(0);
        Check.due("DONE", x.ran(0), 1);
        // parts in another order
        begin(0);
        x.invoke(0, 0, 1);
        x.deliver(1);
        x.deliver(0);
        Check.due("DONE", x.ran(0), 1);
    }

    /** Parts of two clients' calls with one XID do not meet. */
    private static void partsByClient() {
        begin(0);
        x.client(1, 0, 0);
        x.client(2, 0, 0);
        x.invoke(0, 0, 1);
        x.invoke(1, 0, 1);
        x.invoke(2, 0, 1);
        x.deliver(0);
        x.deliver(2);
        Check.due("part 0 of one, part 1 of another", x.net(3), 2);
        Check.due("none is all there", x.ran(0), 0);
        x.deliver(2);
        Check.due("three calls", x.net(3), 3);
        x.deliver(0);
        Check.due("the first is all there", x.ran(0), 1);
        Check.due("its answer", x.letter(2, 0), 0);
        x.deliver(1);
        Check.due("the last is all there", x.ran(0), 2);
        Check.due("its answer", x.letter(2, 0), 2);
        Check.due("one call", x.net(3), 1);
        x.deliver(0);
        Check.due("the second is all there", x.ran(0), 3);
        Check.due("its answer", x.letter(2, 0), 1);
    }

    /** The last service of the last schema, the last client. */
    private static void lastOfAll() {
        c = new Check();
        x = c.house;
        c.schema(3, "service A { cell x; } record R { int x @ 1; } service B { cell p; cell q; call a (R) R @ 1 { q = in.x; } call b (R) R @ 2 { p = p + in.x; out.x = p; } }");
        c.read(3, 11, "R{x:5}");
        Check.due("server", x.server(3, 1, 2), 1);
        Check.due("client", x.client(2, 3, 1), 1);
        Check.due("a call", x.invoke(2, 1, 11), 0);
        Check.due("its BODY", body(0).substring(0, 32), mark("B") + "00000000" + "00000002");
        x.deliver(0);
        Check.due("the answer", x.letter(0, 0), 2);
        x.deliver(0);
        Check.due("ANSWERED", x.outcome(2, 0, 0) * 10 + x.outcome(2, 0, 3), 11);
        Check.due("take", x.take(2, 0, 10), 1);
        c.printed("it", 10, "R{x:5}");
        Check.due("of schema 3", x.told(10, 0), 3);
        Check.due("cells", x.cell(0) * 10 + x.cell(1), 50);
        Check.due("ran", x.ran(1) * 10 + x.ran(0), 10);
        Check.due("no call more", x.ran(2), Check.BAD);
        x.client(0, 3, 0);
        Check.due("a service without calls", x.invoke(0, 0, 11), Check.BAD);
        // the first one of a server has one cell and no calls
        x.server(3, 0, 0);
        Check.due("no call", x.ran(0), Check.BAD);
        x.client(1, 3, 1);
        x.invoke(1, 0, 11);
        x.deliver(0);
        x.deliver(0);
        Check.due("another service's NAME", x.outcome(1, 0, 1), 1);
    }

    /** Each call has records of its own, whatever the time is. */
    private static void recordsOfCalls() {
        c = new Check();
        x = c.house;
        c.schema(0, "record A { int x @ 1; } record B { int y @ 1; } record C { int z @ 1; } record D { int w @ 1; } service S { cell n; call p (A) B @ 5 { out.y = in.x + 1; } call q (B) C @ 4 { out.z = in.y + 2; } call r (C) D @ 3 { out.w = in.z + 3; } call s (D) A @ 2 { out.x = in.w + 4; } }");
        x.server(0, 0, 1);
        x.client(0, 0, 0);
        String[] names = {"A{x:", "B{y:", "C{z:", "D{w:"};
        for (int m = 0; m < 4; m++) {
            c.read(0, m, names[m] + "10}");
        }
        x.tick(2);
        for (int j = 0; j < 4; j++) {
            for (int m = 0; m < 4; m++) {
                Check.due("call " + j + " with message " + m, x.invoke(0, j, m), j == m ? j : Check.NO);
            }
            x.tick(1);
        }
        for (int i = 0; i < 8; i++) {
            x.deliver(0);
        }
        for (int j = 0; j < 4; j++) {
            Check.due("its place", x.outcome(0, j, 3), j);
            Check.due("sent once", x.outcome(0, j, 2), 1);
            Check.due("take", x.take(0, j, 5), 1);
            c.printed("the answer", 5, names[(j + 1) % 4] + (11 + j) + "}");
            Check.due("its record", x.told(5, 1), (j + 1) % 4);
        }
    }

    private static void remembersSix() {
        begin(0);
        for (int i = 0; i < 7; i++) {
            x.invoke(0, 0, 0);
        }
        for (int i = 0; i < 7; i++) {
            x.twice(i);
        }
        // 14 LETTERS of calls 0 .. 6, twice
        for (int i = 0; i < 6; i++) {
            x.deliver(0);
            Check.due("it remembers", x.net(2), i + 1);
        }
        // 6 0 1 2 3 4 5 6 and six answers; call 0 is remembered till the seventh
        x.deliver(1);
        Check.due("of call 0 the answer again", x.ran(0), 6);
        x.deliver(0);
        Check.due("the seventh", x.ran(0), 7);
        Check.due("it remembers", x.net(2), 6);
        x.deliver(0);
        Check.due("call 1 is remembered", x.ran(0), 7);
        x.client(1, 0, 0);
        x.invoke(1, 0, 0);
        x.deliver(x.net(0) - 1);
        Check.due("the eighth", x.ran(0), 8);
        x.deliver(0);
        Check.due("call 2 is remembered", x.ran(0), 8);
    }

    /** What is sent again is the answer to that call, however many came behind it. */
    private static void remembersBytes() {
        begin(0);
        for (int i = 0; i < 9; i++) {
            x.invoke(0, 0, 0);
            x.twice(x.net(0) - 1);
            x.deliver(x.net(0) - 1);
            x.lose(x.net(0) - 1);
        }
        Check.due("a LETTER of each call", x.net(0), 9);
        Check.due("DONE", x.ran(0), 9);
        for (int i = 0; i < 6; i++) {
            Check.due("deliver", x.deliver(3), 9);
            Check.due("DONE", x.ran(0), 9);
            Check.due("its XID", x.letter(8, 2), 3 + i);
            Check.due("its bytes", body(8), String.format("%08x0000000008%02x", 3 + i, 4 + i));
        }
        Check.due("one that it has forgotten", x.deliver(2), 9);
        Check.due("is DONE", x.ran(0), 10);
        Check.due("its bytes", body(8), "0000000200000000080a");
    }

    /** That an answer is sent again does not keep it longer. */
    private static void remembersOldest() {
        begin(0);
        x.invoke(0, 0, 0);
        x.twice(0);
        x.twice(0);
        x.deliver(0);
        for (int i = 1; i < 6; i++) {
            x.invoke(0, 0, 0);
            x.deliver(x.net(0) - 1);
        }
        Check.due("six answers", x.net(2) * 10 + x.ran(0), 66);
        x.deliver(0);
        Check.due("the first is sent again", x.ran(0), 6);
        x.invoke(0, 0, 0);
        x.deliver(x.net(0) - 1);
        Check.due("the seventh", x.ran(0), 7);
        x.deliver(0);
        Check.due("the first is DONE again", x.ran(0), 8);
        Check.due("six answers", x.net(2), 6);
    }

    private static void remembersByClient() {
        begin(0);
        x.client(1, 0, 0);
        x.invoke(0, 0, 0);
        x.invoke(1, 0, 0);
        x.twice(0);
        x.deliver(0);
        x.deliver(0);
        Check.due("XID 0 of two clients", x.ran(0), 2);
        Check.due("two answers", x.net(2), 2);
        x.deliver(0);
        Check.due("remembered", x.ran(0), 2);
        Check.due("the answer of the first again", x.letter(2, 0), 0);
        // with a code it is remembered, too
        begin(0);
        x.invoke(0, 3, 0);
        x.twice(0);
        x.deliver(0);
        Check.due("it is remembered", x.net(2), 1);
        x.deliver(0);
        Check.due("DONE once", x.ran(3), 1);
        x.client(1, 0, 1);
        x.invoke(1, 0, 0);
        x.twice(x.net(0) - 1);
        x.deliver(x.net(0) - 1);
        Check.due("code 1, too", x.net(2), 2);
        int n = x.net(0);
        x.deliver(n - 2);
        Check.due("sent again", x.net(0), n);
    }

    /** Of another part than 0 of a call that is remembered nothing comes. */
    private static void partsOfRemembered() {
        begin(0);
        x.invoke(0, 2, 1);
        x.twice(0);
        x.twice(1);
        x.deliver(0);
        x.deliver(0);
        Check.due("parts 0, 1 and two of the answer", x.net(0), 4);
        Check.due("part 1", x.deliver(1), 3);
        Check.due("it keeps nothing", x.net(3), 0);
        Check.due("part 0: both of the answer", x.deliver(0), 4);
        Check.due("DONE once", x.ran(2), 1);
    }

    /** Calls a call and brings all LETTERS: what came of it. */
    private static int call(int client, int j, int m) {
        int xid = x.invoke(client, j, m);
        for (int i = 0; i < 130 && x.net(0) > 0; i++) {
            x.deliver(0);
        }
        return x.outcome(client, xid, 1);
    }

    private static void codes() {
        begin(1);
        Check.due("0", call(0, 0, 0), 0);
        Check.due("0 is ANSWERED", x.outcome(0, 0, 0), 1);
        x.client(1, 0, 1);
        Check.due("1", call(1, 0, 0), 1);
        Check.due("FAILED", x.outcome(1, 0, 0), 2);
        c.schema(1, TYPES.replace("int x @ 1;", "int x @ 1; int z @ 9;") + "service S { call k (A) B @ 3 { } call u (A) B @ 4 { } } service U { call u (A) B @ 4 { } }");
        x.client(2, 1, 0);
        c.read(1, 2, "A{}");
        Check.due("2", call(2, 1, 2), 2);
        Check.due("3", call(2, 0, 2), 3);
        Check.due("DONE by 0 alone", x.ran(0), 1);
        Check.due("4", call(0, 3, 0), 4);
        c.read(0, 3, "A{}");
        Check.due("5", call(0, 3, 3), 5);
        Check.due("4 and 5 were DONE", x.ran(3), 2);
        Check.due("no other", x.ran(0) + x.ran(1) + x.ran(2), 1);
        Check.due("cells as before", x.cell(0), 1);
    }

    /** Of MARK, number and message the first that is wrong. */
    private static void codesFirst() {
        begin(1);
        c.schema(1, TYPES.replace("int x @ 1;", "int x @ 1; int z @ 9;") + "service U { call k (A) B @ 3 { } call u (A) B @ 4 { } } service S { call u (A) B @ 4 { } }");
        x.client(1, 1, 0);
        x.client(2, 1, 1);
        c.read(1, 2, "A{}");
        Check.due("1 ahead of 3", call(1, 0, 2), 1);
        Check.due("1 ahead of 2", call(1, 1, 2), 1);
        Check.due("2 ahead of 3", call(2, 0, 2), 2);
        Check.due("none was DONE", x.ran(0) + x.ran(1) + x.ran(2) + x.ran(3), 0);
    }

    private static void code6() {
        for (int format = 0; format < 3; format++) {
            c = new Check();
            x = c.house;
            c.schema(0, "enum E { A = 1; } record A { int x @ 1; } record B { E e @ 1; maybe E f @ 2; } service S { cell n; call k (A) B @ 1 { n = n + 1; out.e = in.x; } call l (A) B @ 2 { n = n + 1; out.f = in.x; } call m (A) B @ 3 { n = n + 1; out.f = in.x; fail 1; } }");
            x.server(0, 0, format);
            x.client(0, 0, 0);
            c.read(0, 0, "A{x:1}");
            c.read(0, 1, "A{x:2}");
            c.read(0, 2, "A{x:65537}");
            Check.due("a constant's number", call(0, 0, 0), 0);
            Check.due("its lowest bits", call(0, 1, 2), 0);
            Check.due("cells", x.cell(0), 2);
            Check.due("none's", call(0, 0, 1), format == 1 ? 6 : 0);
            Check.due("none's", call(0, 1, 1), format == 1 ? 6 : 0);
            Check.due("cells as before with 6", x.cell(0), format == 1 ? 2 : 4);
            Check.due("4 ahead of 6", call(0, 2, 1), 4);
            Check.due("DONE with 6, too", x.ran(0) * 10 + x.ran(1), 22);
        }
    }

    private static void cellsAsBefore() {
        c = new Check();
        x = c.house;
        c.schema(0, "record A { int x @ 1; } record B { long l @ 1; } service S { cell n; cell o; call k (A) B @ 1 { n = 5; o = n + 1; n = 7; fail in.x == 1; o = 10 / (in.x - 2); out.l = n; fail 0; n = n * 10; } }");
        x.server(0, 0, 0);
        x.client(0, 0, 0);
        for (int i = 0; i < 5; i++) {
            c.read(0, i, "A{x:" + i + "}");
        }
        Check.due("0", call(0, 0, 0), 0);
        Check.due("steps in order", x.cell(0) * 10 + x.cell(1), 70 * 10 - 5);
        Check.due("4", call(0, 0, 1), 4);
        Check.due("cells as before", x.cell(0) * 10 + x.cell(1), 695);
        Check.due("5", call(0, 0, 2), 5);
        Check.due("cells as before", x.cell(0) * 10 + x.cell(1), 695);
        Check.due("0", call(0, 0, 3), 0);
        Check.due("cells", x.cell(0) * 10 + x.cell(1), 710);
        x.take(0, 3, 5);
        c.printed("out", 5, "B{l:7}");
    }

    private static void answers() {
        begin(0);
        x.invoke(0, 2, 0);
        x.deliver(0);
        Check.due("an answer of two parts", x.net(0), 2);
        x.twice(0);
        x.deliver(0);
        Check.due("one part: it WAITS", x.outcome(0, 0, 0), 0);
        x.deliver(1);
        Check.due("the same part again", x.outcome(0, 0, 0), 0);
        x.twice(0);
        x.deliver(0);
        Check.due("ANSWERED", x.outcome(0, 0, 0), 1);
        x.take(0, 0, 5);
        c.printed("the answer", 5, "B{a:-1,b:-1,c:-1,d:-1,e:-1}");
        Check.due("a part more", x.deliver(0), 0);
        Check.due("it is ANSWERED", x.outcome(0, 0, 0), 1);
    }

    /** 7: the message can't be READ as the second record of the client's own schema. */
    private static void answersOfOthers() {
        for (int format = 0; format < 3; format++) {
            begin(format);
            c.schema(1, TYPES.replace("long e @ 5; } ", "long e @ 5; long f @ 6; } ") + "service S { call k (A) B @ 3 { } call f (A) B @ 5 { } }");
            x.client(1, 1, 0);
            c.read(1, 2, "A{x:3}");
            Check.due("7", call(1, 0, 2), format == 1 ? 7 : 0);
            Check.due("FAILED", x.outcome(1, 0, 0), format == 1 ? 2 : 1);
            Check.due("take", x.take(1, 0, 5), format == 1 ? Check.NO : 1);
            Check.due("it was DONE", x.ran(0), 1);
            Check.due("a code above 0 ahead of it", call(1, 1, 2), 4);
        }
    }

    /** Parts of one answer and of another: with as many parts they meet, with other numbers they do not. */
    private static void answersMixed() {
        begin(0);
        x.invoke(0, 2, 0);
        x.twice(0);
        x.deliver(0);
        x.crash();
        x.deliver(0);
        // two parts of -1, two of -2
        Check.due("two answers of two parts", x.net(0), 4);
        x.deliver(0);
        x.deliver(1);
        Check.due("part 0 of both", x.outcome(0, 0, 0), 0);
        x.deliver(1);
        Check.due("part 1 of the second", x.outcome(0, 0, 0), 1);
        x.take(0, 0, 5);
        c.printed("what was there stays", 5, "B{a:-1,b:-1,c:-1,d:-1,e:-2}");
        // the other way round: part 1 of the first, part 0 of the second
        begin(0);
        x.invoke(0, 2, 0);
        x.twice(0);
        x.deliver(0);
        x.crash();
        x.deliver(0);
        x.deliver(1);
        x.deliver(2);
        Check.due("part 1 of both", x.outcome(0, 0, 0), 0);
        x.deliver(1);
        Check.due("part 0 of the second", x.outcome(0, 0, 0), 1);
        x.take(0, 0, 5);
        c.printed("what was there stays", 5, "B{a:-2,b:-2,c:-2,d:-2,e:-1}");
        // z: first two parts, then one, without anything SET
        begin(0);
        x.invoke(0, 1, 0);
        x.twice(0);
        x.deliver(0);
        x.crash();
        x.deliver(0);
        Check.due("two parts and one", x.net(0), 3);
        x.deliver(0);
        x.deliver(1);
        Check.due("the later one takes the place, and is all of it", x.outcome(0, 0, 0), 1);
        x.take(0, 0, 5);
        c.printed("the second answer", 5, "B{}");
        // the other way round: the one of one part is all there at once
        begin(0);
        x.invoke(0, 1, 0);
        x.twice(0);
        x.deliver(0);
        x.crash();
        x.deliver(0);
        x.deliver(2);
        Check.due("ANSWERED", x.outcome(0, 0, 0), 1);
        x.deliver(0);
        x.deliver(0);
        x.take(0, 0, 5);
        c.printed("and stays so", 5, "B{}");
    }

    private static void ticks() {
        begin(0);
        x.tick(5);
        x.invoke(0, 0, 1);
        x.lose(0);
        x.lose(0);
        Check.due("7 behind", x.tick(7), 12);
        Check.due("nothing", x.net(0), 0);
        Check.due("8 behind", x.tick(1), 13);
        Check.due("all its LETTERS", x.net(0), 2);
        Check.due("sent", x.outcome(0, 0, 2), 2);
        Check.due("15 behind", x.tick(7), 20);
        Check.due("nothing more", x.net(0), 2);
        Check.due("16 behind", x.tick(1), 21);
        Check.due("a third time", x.outcome(0, 0, 2) * 10 + x.net(0), 34);
        Check.due("23 behind", x.tick(7), 28);
        Check.due("nothing more", x.net(0), 4);
        Check.due("24 behind", x.tick(1), 29);
        Check.due("a fourth time", x.outcome(0, 0, 2) * 10 + x.net(0), 46);
        Check.due("31 behind", x.tick(7), 36);
        Check.due("it WAITS", x.outcome(0, 0, 0), 0);
        Check.due("32 behind", x.tick(1), 37);
        Check.due("GIVEN UP", x.outcome(0, 0, 0), 3);
        Check.due("no more", x.outcome(0, 0, 2) * 10 + x.net(0), 46);
        // in one go
        begin(0);
        x.invoke(0, 0, 0);
        Check.due("tick", x.tick(31), 31);
        Check.due("all but GIVEN UP", x.outcome(0, 0, 0) * 100 + x.outcome(0, 0, 2) * 10 + x.net(0), 44);
        x.tick(1);
        Check.due("GIVEN UP", x.outcome(0, 0, 0), 3);
    }

    private static void givenUp() {
        begin(0);
        x.invoke(0, 0, 0);
        x.invoke(0, 0, 0);
        x.deliver(0);
        x.deliver(1);
        Check.due("ANSWERED", x.outcome(0, 0, 0), 1);
        x.tick(100);
        Check.due("it is so", x.outcome(0, 0, 0), 1);
        Check.due("sent once", x.outcome(0, 0, 2), 1);
        Check.due("GIVEN UP", x.outcome(0, 1, 0), 3);
        Check.due("without a code", x.outcome(0, 1, 1), 0);
        Check.due("sent four times", x.outcome(0, 1, 2), 4);
        Check.due("four LETTERS", x.net(0), 4);
        // its answer comes too late
        x.deliver(0);
        Check.due("DONE", x.ran(0), 2);
        x.deliver(3);
        Check.due("GIVEN UP for ever", x.outcome(0, 1, 0), 3);
        Check.due("take", x.take(0, 1, 5), Check.NO);
        x.tick(100);
        Check.due("GIVEN UP for ever", x.outcome(0, 1, 0), 3);
        Check.due("nothing is sent", x.net(0), 3);
    }

    private static void tickRefused() {
        c = new Check();
        for (int n : new int[] {0, -1, 101, Integer.MAX_VALUE, Integer.MIN_VALUE}) {
            Check.due("BAD ahead of NO", c.house.tick(n), Check.BAD);
        }
        Check.due("NO", c.house.tick(100), Check.NO);
        begin(0);
        for (int n : new int[] {0, -1, 101, Integer.MAX_VALUE, Integer.MIN_VALUE}) {
            Check.due("BAD", x.tick(n), Check.BAD);
        }
        Check.due("time stays", x.net(1), 0);
        Check.due("1", x.tick(1), 1);
        Check.due("100", x.tick(100), 101);
        Check.due("the time", x.net(1), 101);
    }

    /** What is ANSWERED is not sent again; each call by its own last sending. */
    private static void answeredBetween() {
        begin(0);
        x.client(1, 0, 0);
        x.invoke(1, 0, 0);
        x.tick(1);
        x.invoke(0, 0, 0);
        x.invoke(0, 0, 0);
        Check.due("at 8 that of the other client", x.tick(7), 8);
        Check.due("it", x.letter(3, 1), 1);
        x.deliver(1);
        x.deliver(3);
        Check.due("ANSWERED", x.outcome(0, 0, 0), 1);
        Check.due("at 9 the second alone", x.tick(1), 9);
        Check.due("LETTERS", x.net(0), 4);
        Check.due("XID 1", x.letter(3, 2), 1);
        Check.due("sent", x.outcome(0, 0, 2) * 100 + x.outcome(0, 1, 2) * 10 + x.outcome(1, 0, 2), 122);
    }

    private static void crashes() {
        begin(0);
        x.invoke(0, 0, 0);
        x.invoke(0, 0, 1);
        x.twice(0);
        x.deliver(0);
        x.deliver(0);
        x.tick(3);
        Check.due("one answer in mind", x.crash(), 1);
        Check.due("it remembers none", x.net(2), 0);
        Check.due("it keeps none", x.net(3), 0);
        Check.due("cells stay", x.cell(0) * 10 + x.cell(1), 13);
        Check.due("ran stays", x.ran(0), 1);
        Check.due("LETTERS stay", x.net(0), 3);
        Check.due("time stays", x.net(1), 3);
        Check.due("clients stay", x.outcome(0, 1, 0), 0);
        x.deliver(0);
        Check.due("part 1 alone", x.ran(0), 1);
        x.deliver(0);
        Check.due("a call that it has forgotten is DONE again", x.ran(0), 2);
        Check.due("cells", x.cell(0), 2);
        Check.due("a second crash", x.crash(), 1);
        Check.due("a third", x.crash(), 0);
    }

    private static long answer(int j, String path) {
        int xid = x.invoke(0, j, 0);
        x.deliver(0);
        while (x.net(0) > 0) {
            x.deliver(0);
        }
        Check.due("ANSWERED", x.outcome(0, xid, 0), 1);
        x.take(0, xid, 1);
        c.ask(1, 0, path);
        return x.number();
    }

    /** Steps a .. e of one call each. */
    private static void exps(String message, String[] exps, long[] due) {
        c = new Check();
        x = c.house;
        StringBuilder text = new StringBuilder("record N { } record A { int x @ 1; ulong w @ 2 = 9223372036854775807; maybe int m @ 3; one o { int oi @ 4; text ot @ 5; N on @ 6; } N n @ 7; maybe N mn @ 8; many int l @ 9; map<int, int> p @ 10; text t @ 11 = \"abc\"; bytes s @ 12; bool b @ 13; uint u @ 14; maybe text mt @ 15; } record B { long r @ 1; } service S { cell c;");
        for (int i = 0; i < exps.length; i++) {
            text.append(" call k").append(i).append(" (A) B @ ").append(i).append(" { out.r = ").append(exps[i]).append("; }");
        }
        Check.due("schema", c.schema(0, text.append(" }").toString()), 3);
        x.server(0, 0, 0);
        x.client(0, 0, 0);
        Check.due(message, c.read(0, 0, message) >= 0 ? 1 : 0, 1);
        for (int i = 0; i < exps.length; i++) {
            Check.due(message + ": " + exps[i], answer(i, "r"), due[i]);
        }
    }

    private static void numbersRunOver() {
        String min = "(-9223372036854775807 - 1)";
        exps("A{}", new String[] {"9223372036854775807 + 1", min + " - 1", min + " / -1", min + " % -1", "-" + min, min + " * -1",
            "4611686018427387904 * 2", "4294967296 * 4294967296", "9223372036854775807 * 9223372036854775807", min + " * " + min},
            new long[] {Long.MIN_VALUE, Long.MAX_VALUE, Long.MIN_VALUE, 0, Long.MIN_VALUE, Long.MIN_VALUE, Long.MIN_VALUE, 0, 1, 0});
        exps("A{w:0}", new String[] {"-7 / 2", "7 / -2", "-7 / -2", "-7 % 2", "7 % -2", "-7 % -2", "7 / 7", "6 / 7", "0 / 5", "0 % 5"},
            new long[] {-3, -3, 3, -1, 1, -1, 1, 0, 0, 0});
        c = new Check();
        x = c.house;
        c.schema(0, "record A { } record B { long r @ 1; } service S { cell c; call a (A) B @ 1 { out.r = 1 / 0; } call b (A) B @ 2 { out.r = 1 % 0; } call d (A) B @ 3 { out.r = 0 / c; } call e (A) B @ 4 { fail 1 % c; } call f (A) B @ 5 { c = 1; out.r = 0 * (1 / (c - 1)); } call g (A) B @ 6 { out.r = (1 == 2) * (1 / 0); } }");
        x.server(0, 0, 0);
        x.client(0, 0, 0);
        c.read(0, 0, "A{}");
        for (int j = 0; j < 6; j++) {
            Check.due("by 0", call(0, j, 0), 5);
        }
        Check.due("cells as before", x.cell(0), 0);
    }

    private static void operators() {
        exps("A{}", new String[] {"1 + 2 * 3", "(1 + 2) * 3", "10 - 3 - 2", "100 / 10 / 2", "2 * 3 % 4", "-2 * -3", "!0 + !5", "!!7", "- -3", "1 + 1 == 2"},
            new long[] {7, 9, 5, 5, 2, 6, 1, 1, 3, 1});
        exps("A{}", new String[] {"1 < 1", "1 <= 1", "1 > 1", "1 >= 1", "1 == 1", "1 != 1", "-1 < 0", "0 - 1 >= 0", "2 > 1 + 1", "!(1 < 2)"},
            new long[] {0, 1, 0, 1, 1, 0, 1, 0, 0, 0});
        // with sign, also what came without
        exps("A{x:-1,u:4294967295}", new String[] {"in.w > 0", "in.w + 1 < 0", "in.x < in.u", "-in.x", "!in.x", "in.u + 1", "in.x * in.u", "-!0", "!-0", "1 - -1"},
            new long[] {1, 1, 1, 1, 0, 4294967296L, -4294967295L, -1, 1, 2});
    }

    /** in . NAME of all there is. */
    private static void reads() {
        String[] all = {"in.m", "in.oi", "in.ot", "in.on", "in.n", "in.mn", "in.l", "in.p", "in.t", "in.s"};
        exps("A{}", all, new long[] {0, 0, 0, 0, 0, 0, 0, 0, 3, 0});
        exps("A{m:5,oi:6,n:{},mn:{},l:[0,0],p:<1:1>,t:\"\",s:\"\\x00\\xff\"}", all, new long[] {5, 6, 0, 0, 1, 1, 2, 1, 0, 2});
        exps("A{on:{}}", all, new long[] {0, 0, 0, 1, 0, 0, 0, 0, 3, 0});
        exps("A{ot:\"\\xc3\\xa9\"}", all, new long[] {0, 0, 2, 0, 0, 0, 0, 0, 3, 0});
        exps("A{m:-2147483648,b:true,mt:\"ab\"}", new String[] {"in.m", "in.b", "in.mt", "in.w", "in.x"}, new long[] {-2147483648, 1, 2, Long.MAX_VALUE, 0});
        exps("A{}", new String[] {"in.b", "in.mt", "in.u", "c"}, new long[] {0, 0, 0, 0});
        c = new Check();
        x = c.house;
        c.schema(0, "record A { ulong w @ 1; fixlong g @ 2; } record B { long r @ 1; } service S { call k (A) B @ 1 { out.r = in.w + in.g; } }");
        x.server(0, 0, 0);
        x.client(0, 0, 0);
        c.load(0, "08ffffffffffffffffff01 11feffffffffffffff");
        x.decode(0, 0, 0, 0, 0);
        Check.due("a long with the same bits", answer(0, "r"), -3);
    }

    private static void lowestBits() {
        c = new Check();
        x = c.house;
        c.schema(0, "enum E { A = 1; } record A { long v @ 1; } record B { bool b @ 1; int i @ 2; uint u @ 3; zint z @ 4; fix f @ 5; long j @ 6; ulong w @ 7; E e @ 8; maybe int m @ 9; maybe bool n @ 10; one o { int p @ 11; bool q @ 12; } } service S { call k (A) B @ 1 { out.b = in.v; out.i = in.v; out.u = in.v; out.z = in.v; out.f = in.v; out.j = in.v; out.w = in.v; out.e = in.v; out.m = in.v; out.n = in.v; out.p = in.v; } call l (A) B @ 2 { out.p = 1; out.q = in.v; } call m (A) B @ 3 { out.q = 1; out.p = in.v; } call n (A) B @ 4 { out.i = 5; out.i = 0; out.m = 5; out.m = 0; } }");
        x.server(0, 0, 0);
        x.client(0, 0, 0);
        String[][] rows = {
            {"0", "B{e:0,m:0,n:false,p:0}"},
            {"1", "B{b:true,i:1,u:1,z:1,f:1,j:1,w:1,m:1,n:true,p:1}"},
            {"-1", "B{b:true,i:-1,u:4294967295,z:-1,f:4294967295,j:-1,w:18446744073709551615,e:-1,m:-1,n:true,p:-1}"},
            {"4294967296", "B{b:true,j:4294967296,w:4294967296,e:0,m:0,n:true,p:0}"},
            {"2147483648", "B{b:true,i:-2147483648,u:2147483648,z:-2147483648,f:2147483648,j:2147483648,w:2147483648,e:0,m:-2147483648,n:true,p:-2147483648}"},
            {"98304", "B{b:true,i:98304,u:98304,z:98304,f:98304,j:98304,w:98304,e:-32768,m:98304,n:true,p:98304}"}};
        for (int i = 0; i < rows.length; i++) {
            c.read(0, 0, "A{v:" + rows[i][0] + "}");
            Check.due("call", call(0, 0, 0), 0);
            x.take(0, i, 1);
            c.printed(rows[i][0], 1, rows[i][1]);
        }
        c.read(0, 0, "A{v:256}");
        call(0, 1, 0);
        x.take(0, 6, 1);
        c.printed("the one's other went", 1, "B{q:true}");
        call(0, 2, 0);
        x.take(0, 7, 1);
        c.printed("the one's other went", 1, "B{p:256}");
        call(0, 3, 0);
        x.take(0, 8, 1);
        c.printed("MAYBE is there", 1, "B{m:0}");
    }

    private static void outcomeRefused() {
        begin(0);
        x.invoke(0, 2, 0);
        for (int[] b : new int[][] {{-1, 0, 0}, {3, 0, 0}, {1, 0, 0}, {0, -1, 0}, {0, 1, 0}, {0, Integer.MAX_VALUE, 0}, {0, 0, -1}, {0, 0, 4}}) {
            Check.due("BAD", x.outcome(b[0], b[1], b[2]), Check.BAD);
        }
        int[] due = {0, 0, 1, 2};
        for (int what = 0; what < 4; what++) {
            Check.due("outcome " + what, x.outcome(0, 0, what), due[what]);
        }
    }

    private static void takes() {
        begin(0);
        c.read(0, 5, "A{x:77}");
        Check.due("ANSWERED", call(0, 0, 0), 0);
        Check.due("FAILED", call(0, 3, 0), 4);
        x.invoke(0, 0, 0);
        for (int[] b : new int[][] {{-1, 0, 5}, {3, 0, 5}, {1, 0, 5}, {0, -1, 5}, {0, 3, 5}, {0, 0, -1}, {0, 0, 12}, {0, 1, 12}}) {
            Check.due("BAD", x.take(b[0], b[1], b[2]), Check.BAD);
        }
        Check.due("FAILED", x.take(0, 1, 5), Check.NO);
        Check.due("it WAITS", x.take(0, 2, 5), Check.NO);
        c.printed("m stays", 5, "A{x:77}");
        Check.due("take", x.take(0, 0, 11), 1);
        c.printed("the answer", 11, "B{a:1}");
        Check.due("in place of another", x.take(0, 0, 5), 1);
        Check.due("the same", x.same(5, 11), 1);
        Check.due("its schema", x.told(5, 0), 0);
        // of the client's schema
        c.schema(1, SCHEMA);
        x.client(1, 1, 0);
        c.read(1, 2, "A{}");
        Check.due("ANSWERED", call(1, 0, 2), 0);
        x.take(1, 0, 5);
        Check.due("its schema", x.told(5, 0), 1);
        Check.due("its record", x.told(5, 1), 2);
    }

    private static void counts() {
        begin(0);
        for (int j : new int[] {-1, 4, Integer.MAX_VALUE, Integer.MIN_VALUE}) {
            Check.due("ran of none", x.ran(j), Check.BAD);
        }
        for (int j = 0; j < 4; j++) {
            Check.due("ran of none yet", x.ran(j), 0);
        }
        for (int k : new int[] {-1, 2, Integer.MAX_VALUE, Integer.MIN_VALUE}) {
            Check.due("cell of none", x.cell(k), 0);
        }
        call(0, 0, 0);
        Check.due("the last cell", x.cell(1), 3);
        for (int what : new int[] {-1, 6, Integer.MAX_VALUE, Integer.MIN_VALUE}) {
            Check.due("net of none", x.net(what), Check.BAD);
        }
        c.tape("abcd");
        Check.due("bytes of the tape", x.net(4), 4);
    }
}
