import java.io.ByteArrayOutputStream;

/** Limits that are met exactly, several at once: what is within all of them is not refused. */
public final class EdgesAtOnce {
    private static Check c;
    private static WireHouse x;

    public static void main(String[] args) {
        schemas();
        messages();
        unknownFields();
        texts();
        differences();
        calls();
        answers();
        Check.end();
    }

    private static void begin() {
        c = new Check();
        x = c.house;
    }

    /** A text as often as told, # in it being 1, 2, .. */
    private static String each(String text, int n) {
        StringBuilder all = new StringBuilder();
        for (int i = 1; i <= n; i++) {
            all.append(text.replace("#", String.valueOf(i)));
        }
        return all.toString();
    }

    /**
     * 30 types, one with 16 constants and one with 24 fields in 8 ones, 4 services, one with 8 cells and 10
     * calls, of which one has 100 NODES and an exp within 10 others, in a text of 4000 bytes.
     */
    private static void schemas() {
        begin();
        StringBuilder ones = new StringBuilder();
        for (int o = 0; o < 8; o++) {
            ones.append("one o").append(o).append(" { ");
            for (int f = 0; f < 3; f++) {
                int n = 3 * o + f;
                ones.append(f == 0 ? "long" : f == 1 ? "text" : "ABCDEFGHIJKLMNOP").append(" f").append(n).append(" @ ").append(n < 23 ? n + 1 : 2000).append(" ; ");
            }
            ones.append("} ");
        }
        String text = "enum ABCDEFGHIJKLMNOP { A = - 32768 ; B = 32767 ; " + each("C# = # ; ", 14) + "} record R { " + ones + "} "
            + "record D { text t @ 1 = \"" + Check.times("\\x41", 60) + "\" ; long l @ 2000 = - 9223372036854775807 ; } "
            + each("record R# { } ", 27) + "service A { " + each("cell c# ; ", 8) + "call k0 ( D ) D @ 0 { c8 = " + Check.times("( ", 10) + "1"
            + Check.times(" + 1", 48) + " + in . t" + Check.times(" )", 10) + " ; fail 0 ; } " + each("call k# ( R ) D @ # { } ", 8) + "call k9 ( D ) R @ 1000 { } } "
            + each("service S# { } ", 3);
        Check.due("bytes without REMARK are fewer than 4000", text.length() < 3990 ? 1 : 0, 1);
        c.tape(text + "#" + Check.times("x", 3999 - text.length()));
        Check.due("THE TAPE is full", x.net(4), 4000);
        Check.due("schema", x.schema(0), 30);
        Check.due("services", x.types(0, 1), 4);
        Check.due("constants", x.type(0, 0, 1), 16);
        Check.due("fields and ones", x.type(0, 1, 1) * 10 + x.type(0, 1, 2), 248);
        // eight TAGS in two words, eight places of 64 bits; eight pointers
        Check.due("D and P", x.type(0, 1, 3) * 10 + x.type(0, 1, 4), 108);
        Check.due("the last field's number", x.field(0, 1, 23, 0), 2000);
        Check.due("calls and cells", x.service(0, 0, 0, 0) * 10 + x.service(0, 0, 0, 1), 108);
        Check.due("NODES", x.service(0, 0, 0, 6), 100);
        Check.due("the last call's number", x.service(0, 0, 9, 2), 1000);
        Check.due("describe", x.describe(0, 0), text.length() - 1);
        c.tape(text.substring(0, text.length() - 1));
        x.load(1);
        Check.due("it is WRITTEN OUT", x.equal(0, 1), 1);
        Check.due("a message", c.read(0, 0, "D{}"), 0);
        x.server(0, 0, 0);
        x.client(2, 0, 0);
        x.invoke(2, 0, 0);
        x.deliver(0);
        Check.due("the exp", x.cell(7), 49 + 60);
        x.deliver(0);
        Check.due("ANSWERED", x.outcome(2, 0, 0), 1);
        // all of the ones
        StringBuilder rec = new StringBuilder("R{f0:-1");
        for (int n = 4; n < 24; n += 3) {
            rec.append(",f").append(n).append(n % 2 == 0 ? ":\"x\"" : ":\"\"");
        }
        Check.due("one of each one", c.read(0, 1, rec + "}"), 8);
        for (int format = 0; format < 3; format++) {
            x.encode(1, format, 2);
            Check.due("it is READ again", x.decode(0, 1, format, 2, 3), 8);
            Check.due("the same", x.same(1, 3), 1);
        }
    }

    private static final String DEEP = "record N { } record R { R r @ 1; many bool l @ 2; map<int, N> m @ 3; bytes b @ 4; many N e @ 5; } "
        + "record O { int a @ 1; } service S { cell n; call k (R) O @ 0 { n = n + in.r; out.a = n; } }";

    private static void write(ByteArrayOutputStream out, int... bytes) {
        for (int b : bytes) {
            out.write(b);
        }
    }

    /** KEY and how many bytes, and these. */
    private static void within(ByteArrayOutputStream out, int key, byte[] bytes) {
        write(out, key);
        int len = bytes.length;
        for (; len > 127; len >>= 7) {
            write(out, len & 127 | 128);
        }
        write(out, len);
        out.writeBytes(bytes);
    }

    private static String hex(byte[] bytes) {
        StringBuilder hex = new StringBuilder();
        for (byte b : bytes) {
            hex.append(String.format("%02x", b & 255));
        }
        return hex.toString();
    }

    /** A STREAM of 12 records within one another, 60 keys, and as many items, bytes and unknown fields as told. */
    private static String stream(int items, int bytes, int strangers) {
        ByteArrayOutputStream rec = new ByteArrayOutputStream();
        byte[] bits = new byte[79];
        java.util.Arrays.fill(bits, (byte) 1);
        within(rec, 0x12, bits);
        within(rec, 0x22, new byte[bytes]);
        for (int i = 0; i < strangers; i++) {
            write(rec, 0x30, 7);
        }
        for (int depth = 11; depth > 0; depth--) {
            ByteArrayOutputStream outer = new ByteArrayOutputStream();
            within(outer, 0x0a, rec.toByteArray());
            for (int i = 0; i < 60 && depth == 11; i++) {
                write(outer, 0x1a, 4, 8, i, 0x12, 0);
            }
            for (int i = 0; i < items && depth == 11; i++) {
                write(outer, 0x2a, 0);
            }
            rec = outer;
        }
        return hex(rec.toByteArray());
    }

    private static void told(String what, int m, int values, int bytes, int deep, int strangers) {
        int[] due = {values, bytes, deep, strangers};
        for (int i = 0; i < 4; i++) {
            Check.due(what + ": told(" + m + ", " + (i + 2) + ")", x.told(m, i + 2), due[i]);
        }
    }

    /** 400 VALUES and 2000 BYTES, 12 deep, in all formats; one more of each is refused. */
    private static void messages() {
        begin();
        c.schema(0, DEEP);
        c.load(0, stream(186, 2000, 0));
        Check.due("READ", x.decode(0, 1, 0, 0, 0), 400);
        told("READ", 0, 400, 2000, 12, 0);
        int[] sizes = {x.size(0), 2796, 3480};
        for (int format = 0; format < 3; format++) {
            Check.due("WRITTEN", x.encode(0, format, 1 + format), sizes[format]);
            Check.due("READ again", x.decode(0, 1, format, 1 + format, 1), 400);
            told("READ again", 1, 400, 2000, 12, 0);
            Check.due("the same", x.same(0, 1), 1);
            Check.due("no DIFFERENCES", x.differ(0, 1), 0);
        }
        Check.due("the bytes that it was READ from", x.equal(0, 1), 1);
        String way = Check.times("r.", 11);
        c.fault("one VALUE more", c.put(0, "l = [true]"), 3, 0);
        c.fault("a key more", c.put(0, Check.times("r.", 10) + "m[60] = {}"), 3, 0);
        c.fault("an item more", c.put(0, Check.times("r.", 10) + "e[186] = {}"), 3, 0);
        c.fault("one deeper", c.put(0, way + "r = {}"), 3, (way + "r = ").length());
        Check.due("a key that is there", c.put(0, Check.times("r.", 10) + "m[59] = {}"), 400);
        Check.due("an item less", c.remove(0, Check.times("r.", 10) + "e[185]"), 399);
        c.fault("a byte more", c.put(0, "b = \"x\""), 3, 0);
        Check.due("MERGED with it", x.merge(0, 1), Check.FULL);
        Check.due("fewer BYTES", c.put(0, way + "b = \"\""), 398);
        Check.due("an item again", c.put(0, Check.times("r.", 10) + "e[185] = {}"), 399);
        Check.due("a byte", c.put(0, "b = \"x\""), 400);
        told("changed", 0, 400, 1, 12, 0);
        Check.due("DIFFERENCES", x.differ(0, 1), 2);
        Check.due("the other is as it was", x.encode(1, 0, 1), x.size(0));
        Check.due("it is", x.equal(0, 1), 1);
    }

    private static void unknownFields() {
        begin();
        c.schema(0, DEEP);
        c.load(0, stream(100, 1914, 86));
        Check.due("READ", x.decode(0, 1, 0, 0, 0), 400);
        told("READ", 0, 400, 2000, 12, 86);
        Check.due("WRITTEN", x.encode(0, 0, 1), x.size(0));
        Check.due("the same bytes", x.equal(0, 1), 1);
        Check.due("copy", x.copy(0, 11), 1);
        Check.due("the same", x.same(0, 11), 1);
        c.load(0, stream(100, 1915, 86));
        c.fault("a byte more", x.decode(0, 1, 0, 0, 0), 7, 0);
        c.load(0, stream(101, 1914, 86));
        c.fault("an item more", x.decode(0, 1, 0, 0, 0), 7, 0);
        c.load(0, stream(100, 1914, 87));
        c.fault("both", x.decode(0, 1, 0, 0, 0), 7, 0);
        told("it stays", 0, 400, 2000, 12, 86);
    }

    /** 400 VALUES and 2000 BYTES told as a text, with 60 ITEMS in STRINGS. */
    private static void texts() {
        begin();
        c.schema(0, "record R { many text t @ 1; map<text, text> m @ 2; many bool b @ 3; maybe R r @ 4; }");
        StringBuilder keys = new StringBuilder();
        for (int i = 0; i < 10; i++) {
            keys.append(i > 0 ? "," : "").append('"').append(i).append(Check.times("k", 59)).append("\":\"").append(Check.times("v", 60)).append('"');
        }
        String strings = "\"" + Check.times("t", 60) + "\"" + Check.times(",\"" + Check.times("t", 60) + "\"", 11) + ",\"" + Check.times("u", 80 - 20) + "\",\"" + Check.times("u", 20) + "\"";
        // t, its 14, m, 10 keys and items, r, b and its items
        String text = "R{t:[" + strings + "],m:<" + keys + ">,r:{b:[true" + Check.times(",true", 400 - 15 - 21 - 2 - 1) + "]}}";
        Check.due("BYTES", 10 * 120 + 13 * 60 + 20, 2000);
        Check.due("read", c.read(0, 0, text), 400);
        told("read", 0, 400, 2000, 2, 0);
        Check.due("print", x.print(0, 0), text.length());
        c.tape(text);
        x.load(1);
        Check.due("PRINTED", x.equal(0, 1), 1);
        c.fault("an item more", c.read(0, 0, text.replace("true]", "true,true]")), 3, 0);
        c.fault("a byte more", c.read(0, 0, text.replace("u\"]", "uu\"]")), 3, 0);
        c.fault("an ITEM more", c.read(0, 0, text.replace("v\"", "vv\"")), 1, text.indexOf("\"v"));
        told("it stays", 0, 400, 2000, 2, 0);
        for (int format = 0; format < 3; format++) {
            int n = x.encode(0, format, 2);
            Check.due("WRITTEN", n > 0 ? x.decode(0, 0, format, 2, 1) : n, 400);
            Check.due("the same", x.same(0, 1), 1);
        }
    }

    /** Of nearly all VALUES of two messages one DIFFERENCE each. */
    private static void differences() {
        begin();
        c.schema(0, "record B { " + each("int x#@#; ", 24) + "} record A { " + each("B b#@#; ", 20) + "A a@21; }");
        StringBuilder one = new StringBuilder();
        StringBuilder two = new StringBuilder();
        for (int i = 1; i <= 24; i++) {
            (i <= 12 ? one : two).append("x").append(i).append(":1").append(i % 12 == 0 ? "" : ",");
        }
        String[] texts = {one.toString(), two.toString()};
        for (int m = 0; m < 2; m++) {
            String many = each("b#:{" + texts[m] + "},", 20);
            String few = each("b#:{" + texts[m] + "},", 10);
            Check.due("read", c.read(0, m, "A{" + many + "a:{" + few.substring(0, few.length() - 1) + "}}"), 20 * 13 + 1 + 10 * 13);
        }
        Check.due("differ", x.differ(0, 1), 30 * 24);
        int[] k = {0, 11, 12, 23, 24, 479, 480, 719};
        String[] due = {"b1.x1", "b1.x12", "b1.x13", "b1.x24", "b2.x1", "b20.x24", "a.b1.x1", "a.b10.x24"};
        for (int i = 0; i < k.length; i++) {
            Check.due("path", x.path(k[i], 0), due[i].length());
            c.row("DIFFERENCE " + k[i], 0, due[i]);
        }
        Check.due("no more", x.path(720, 0), Check.BAD);
        Check.due("MERGED", x.merge(0, 1), Check.FULL);
    }

    /** The message of all limits is called with: 60 LETTERS, as many as THE NET has. */
    private static void calls() {
        begin();
        c.schema(0, DEEP);
        c.load(0, stream(186, 2000, 0));
        x.decode(0, 1, 0, 0, 11);
        x.server(0, 0, 0);
        x.client(0, 0, 0);
        Check.due("invoke", x.invoke(0, 0, 11), 0);
        Check.due("LETTERS", x.net(0) * 100 + x.net(5), 6000);
        Check.due("the last part", x.letter(59, 3) * 100 + x.letter(59, 4), 5960);
        // the parts come in another order than that in which they were sent
        for (int i = 59; i > 0; i--) {
            x.deliver(i);
        }
        Check.due("parts of one call", x.net(3), 1);
        Check.due("not DONE", x.ran(0), 0);
        Check.due("the first comes last", x.deliver(0), 1);
        Check.due("DONE", x.ran(0) * 10 + x.cell(0), 11);
        x.deliver(0);
        Check.due("take", x.take(0, 0, 11), 1);
        c.printed("the answer", 11, "O{a:1}");
        // SLOTTED it has 73 parts, 13 of which have no room
        x.decode(0, 1, 0, 0, 11);
        x.server(0, 0, 2);
        x.client(0, 0, 0);
        Check.due("invoke", x.invoke(0, 0, 11), 0);
        Check.due("LETTERS", x.net(0) * 100 + x.net(5), 6013);
        Check.due("sent again", x.tick(16), 16);
        Check.due("all without room", x.net(5), 13 + 73 + 73);
    }

    /** Three clients with 40 calls each, six answers and parts of four calls, and a NET without room. */
    private static void answers() {
        begin();
        c.schema(0, DEEP);
        c.read(0, 0, "R{r:{}}");
        c.read(0, 1, "R{b:\"" + Check.times("x", 40) + "\"}");
        x.server(0, 0, 0);
        for (int client = 0; client < 3; client++) {
            x.client(client, 0, 0);
        }
        for (int i = 0; i < 7; i++) {
            x.invoke(0, 0, 0);
            x.deliver(0);
            x.lose(0);
        }
        for (int i = 0; i < 5; i++) {
            x.invoke(1, 0, 1);
            x.deliver(0);
            x.lose(0);
        }
        Check.due("answers and parts", x.net(2) * 10 + x.net(3), 64);
        for (int i = 0; i < 40; i++) {
            Check.due("XID", x.invoke(2, 0, 0), i);
        }
        for (int i = 7; i < 40; i++) {
            Check.due("XID", x.invoke(0, 0, 0), i);
        }
        for (int i = 5; i < 40; i++) {
            Check.due("XID", x.invoke(1, 0, 1), i);
        }
        for (int client = 0; client < 3; client++) {
            Check.due("a 41st call", x.invoke(client, 0, 0), Check.FULL);
        }
        Check.due("60 LETTERS, the others are lost", x.net(0) * 1000 + x.net(5), 60000 + 40 + 33 + 70 - 60);
        Check.due("answers and parts stay", x.net(2) * 10 + x.net(3), 64);
        for (int i = 0; i < 40; i++) {
            x.deliver(0);
        }
        Check.due("DONE", x.ran(0), 47);
        Check.due("60 again", x.net(0), 60);
        // the first of these was a fifth call, so that one went, though it was there at once itself; then there was room
        Check.due("the latest six, and parts of three", x.net(2) * 10 + x.net(3), 63);
        Check.due("crash", x.crash(), 6);
        Check.due("cells stay", x.cell(0), 47);
    }
}
