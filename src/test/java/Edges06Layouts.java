/** Section 6 of the document: where the places and pointers of records lie, and what is WRITTEN there. */
public final class Edges06Layouts {
    private static Check c;

    public static void main(String[] args) {
        empty();
        holes();
        enums();
        flags();
        pointersAlone();
        ones();
        oneAtItsLeast();
        mostWords();
        emptyRecords();
        numbersWritten();
        defaultsXor();
        onesWritten();
        flagsWritten();
        textsWritten();
        listsWritten();
        recordsWritten();
        mapsWritten();
        orderOfObjects();
        deepWritten();
        withoutUnknown();
        mostWritten();
        Check.end();
    }

    /** A house with a record R, type 2, of these parts. */
    private static void begin(String parts) {
        c = new Check();
        Check.due(parts, c.schema(0, "enum E { A = 1; B = -2; } record N { } record R { " + parts + " }") >= 3 ? 1 : 0, 1);
    }

    private static void layout(int d, int p) {
        Check.due("D", c.house.type(0, 2, 3), d);
        Check.due("P", c.house.type(0, 2, 4), p);
    }

    /** Of field j its place, pointer, FLAG or TAG; -2 is none. */
    private static void at(int j, int place, int pointer, int flag) {
        Check.due("place of field " + j, c.house.field(0, 2, j, 6), place);
        Check.due("pointer of field " + j, c.house.field(0, 2, j, 7), pointer);
        Check.due("FLAG or TAG of field " + j, c.house.field(0, 2, j, 8), flag);
    }

    private static void empty() {
        begin("");
        layout(0, 0);
        begin("keep 1, 2000;");
        layout(0, 0);
        begin("bool b @ 1;");
        layout(1, 0);
        at(0, 0, -2, -2);
        begin("text t @ 1;");
        layout(0, 1);
        at(0, -2, 0, -2);
    }

    /** A place begins at the least multiple that is free: also between others. */
    private static void holes() {
        begin("bool a @ 1; long b @ 2; bool c @ 3; int d @ 4; E e @ 5; E f @ 6; bool g @ 7;");
        layout(3, 0);
        int[] due = {0, 64, 1, 32, 16, 128, 2};
        for (int j = 0; j < due.length; j++) {
            at(j, due[j], -2, -2);
        }
        begin("E a @ 1; int b @ 2; E c @ 3; int d @ 4; bool e @ 5; long f @ 6; fix g @ 7; uint h @ 8; zint i @ 9; ulong j @ 10; zlong k @ 11; fixlong l @ 12;");
        int[] more = {0, 32, 16, 64, 96, 128, 192, 224, 256, 320, 384, 448};
        layout(8, 0);
        for (int j = 0; j < more.length; j++) {
            at(j, more[j], -2, -2);
        }
        // by rising numbers, not as they stand
        begin("long a @ 3; bool b @ 2000; int c @ 1;");
        layout(2, 0);
        at(0, 64, -2, -2);
        at(1, 32, -2, -2);
        at(2, 0, -2, -2);
        // bits that lie between, to the last one
        StringBuilder bits = new StringBuilder("int a @ 1; E b @ 2; ");
        for (int i = 0; i < 17; i++) {
            bits.append("bool c" + i + " @ " + (i + 3) + "; ");
        }
        begin(bits.toString());
        layout(2, 0);
        at(2, 48, -2, -2);
        at(17, 63, -2, -2);
        at(18, 64, -2, -2);
    }

    /** An enum has no LAYOUT. */
    private static void enums() {
        c = new Check();
        StringBuilder constants = new StringBuilder();
        for (int i = 1; i <= 16; i++) {
            constants.append("A" + i + " = " + i + "; ");
        }
        c.schema(0, "record R { long a @ 1; text t @ 2; one o { int i @ 3; } } enum E { " + constants + "}");
        c.schema(0, "enum E { " + constants + "} record R { E e @ 1; } enum F { " + constants + "}");
        for (int k = 0; k < 3; k += 2) {
            Check.due("an enum", c.house.type(0, k, 0), 0);
            Check.due("constants", c.house.type(0, k, 1), 16);
            for (int what = 2; what < 5; what++) {
                Check.due("of an enum " + what, c.house.type(0, k, what), 0);
            }
        }
        Check.due("D of the record", c.house.type(0, 1, 3), 1);
    }

    /** Unknown fields are not WRITTEN but in a STREAM. */
    private static void withoutUnknown() {
        for (String parts : new String[] {"int i @ 1; R r @ 2; many R l @ 3; map<int, R> m @ 4; text t @ 5;",
            "R r @ 2; int i @ 1; text t @ 5; many R l @ 3; map<int, R> m @ 4;", "text t @ 5; map<int, R> m @ 4; many R l @ 3; R r @ 2; int i @ 1;"}) {
            withoutUnknown(parts);
        }
        begin("");
        c.load(0, "f80c01 fa0c00");
        c.house.decode(0, 2, 0, 0, 0);
        Check.due("a record without words", c.house.encode(0, 2, 3), 8);
        c.bytes("at -1", 3, row(rec(-1, 0, 0)));
    }

    private static void withoutUnknown(String parts) {
        begin(parts);
        c.load(0, "f80c01 0805 1207 0806 fa0c026162 1a03f80c01 220a 0803 1206 f80c05 f80c06 2a0161 f90c0102030405060708");
        Check.due("with six unknown fields", c.house.decode(0, 2, 0, 0, 0) > 0 ? c.house.told(0, 5) : 0, 6);
        c.printed("without them", 0, "R{i:5,r:{i:6},l:[{}],m:<3:{}>,t:\"a\"}");
        c.read(0, 1, "R{i:5,r:{i:6},l:[{}],m:<3:{}>,t:\"a\"}");
        for (int format = 1; format < 3; format++) {
            Check.due("encode", c.house.encode(0, format, 2), c.house.encode(1, format, 3));
            Check.due("the same bytes", c.house.equal(2, 3), 1);
            c.house.decode(0, 2, format, 2, 4);
            Check.due("READ, they are gone", c.house.same(1, 4), 1);
        }
    }

    private static void flags() {
        begin("maybe bool a @ 1; maybe int b @ 2; maybe text c @ 3; maybe bytes d @ 4; maybe R e @ 5; maybe E f @ 6; maybe long g @ 7;");
        layout(2, 3);
        at(0, 1, -2, 0);
        at(1, 32, -2, 2);
        at(2, -2, 0, 3);
        at(3, -2, 1, 4);
        at(4, -2, 2, -2);
        at(5, 16, -2, 5);
        at(6, 64, -2, 6);
        // the FLAG comes first
        begin("maybe long a @ 1;");
        layout(2, 0);
        at(0, 64, -2, 0);
        begin("long a @ 1; maybe text b @ 2;");
        layout(2, 1);
        at(1, -2, 0, 64);
    }

    private static void pointersAlone() {
        begin("many bool a @ 1; many long b @ 2; map<int, int> c @ 3; R d @ 4; text e @ 5; bytes f @ 6; many N g @ 7; map<text, R> h @ 8;");
        layout(0, 8);
        for (int j = 0; j < 8; j++) {
            at(j, -2, j, -2);
        }
    }

    private static void ones() {
        begin("one o { bool a @ 1; }");
        layout(2, 0);
        at(0, 64, -2, 0);
        begin("one o { text a @ 1; }");
        layout(1, 1);
        at(0, -2, 0, 0);
        begin("one o { text a @ 1; R b @ 2; bytes c @ 3; }");
        layout(1, 1);
        at(0, -2, 0, 0);
        at(1, -2, 0, 0);
        at(2, -2, 0, 0);
        begin("one o { N a @ 1; E b @ 2; fixlong c @ 3; }");
        layout(2, 1);
        at(0, -2, 0, 0);
        at(1, 64, -2, 0);
        at(2, 64, -2, 0);
        begin("one o { bool a @ 1; } one p { bool b @ 2; } one q { text c @ 3; }");
        layout(3, 1);
        at(0, 64, -2, 0);
        at(1, 128, -2, 16);
        at(2, -2, 0, 32);
    }

    private static void oneAtItsLeast() {
        begin("text t @ 4; one o { text a @ 9; long b @ 3; } int c @ 5; bool d @ 1; text e @ 2;");
        // d 0, e pointer 0, the one TAG 16, 64, pointer 1, t pointer 2, c 32
        layout(2, 3);
        at(0, -2, 2, -2);
        at(1, -2, 1, 16);
        at(2, 64, -2, 16);
        at(3, 32, -2, -2);
        at(4, 0, -2, -2);
        at(5, -2, 0, -2);
    }

    private static void mostWords() {
        StringBuilder longs = new StringBuilder();
        StringBuilder texts = new StringBuilder();
        StringBuilder maybes = new StringBuilder();
        StringBuilder bools = new StringBuilder();
        for (int i = 1; i <= 24; i++) {
            longs.append("long a" + i + " @ " + i + "; ");
            texts.append("text a" + i + " @ " + i + "; ");
            maybes.append("maybe long a" + i + " @ " + i + "; ");
            bools.append("bool a" + i + " @ " + i + "; ");
        }
        begin(longs.toString());
        layout(24, 0);
        at(23, 23 * 64, -2, -2);
        begin(texts.toString());
        layout(0, 24);
        at(23, -2, 23, -2);
        begin(maybes.toString());
        layout(25, 0);
        at(23, 24 * 64, -2, 23);
        begin(bools.toString());
        layout(1, 0);
        at(23, 23, -2, -2);
    }

    static long rec(long distance, long d, long p) {
        return distance << 2 & 0xffffffffL | d << 32 | p << 48;
    }

    static long list(long distance, long sort, long count) {
        return 1 | distance << 2 & 0xffffffffL | sort << 32 | count << 35;
    }

    static String row(long... words) {
        StringBuilder hex = new StringBuilder();
        for (long w : words) {
            hex.append(Check.word(w));
        }
        return hex.toString();
    }

    private static void wire(String text, long... words) {
        c.read(0, 0, text);
        Check.due("encode of " + text, c.house.encode(0, 2, 3), words.length * 8);
        c.bytes(text, 3, row(words));
        Check.due("decode of " + text, c.house.decode(0, c.house.told(0, 1), 2, 3, 1), c.house.told(0, 2));
        Check.due("the same again: " + text, c.house.same(0, 1), 1);
    }

    private static void emptyRecords() {
        begin("N n @ 1; many N l @ 2; map<int, N> m @ 3; one o { N p @ 4; }");
        wire("N{}", rec(-1, 0, 0));
        wire("R{}", rec(0, 1, 4), 0, 0, 0, 0, 0);
        wire("R{n:{}}", rec(0, 1, 4), 0, rec(-1, 0, 0), 0, 0, 0);
        wire("R{l:[{},{},{}]}", rec(0, 1, 4), 0, 0, list(2, 7, 0), 0, 0, rec(3, 0, 0));
        wire("R{m:<5:{},7:{}>}", rec(0, 1, 4), 0, 0, 0, list(1, 7, 4), 0, rec(2, 1, 1), 5, rec(-1, 0, 0), 7, rec(-1, 0, 0));
        wire("R{p:{}}", rec(0, 1, 4), 1, 0, 0, 0, rec(-1, 0, 0));
    }

    private static void numbersWritten() {
        begin("bool b @ 1; E e @ 2 = A; int i @ 3; long j @ 4; uint u @ 5; ulong w @ 6; zint z @ 7; fix f @ 8; zlong y @ 9; fixlong g @ 10;");
        // b 0, e 16, i 32, j 64, u 128, w 192, z 160, f 256, y 320, g 384
        layout(7, 0);
        wire("R{}", rec(0, 7, 0), 0, 0, 0, 0, 0, 0, 0);
        wire("R{b:true,e:B,i:-1,j:-1,u:4294967295,w:9223372036854775807,z:-1,f:4294967295,y:-2,g:9223372036854775807}",
            rec(0, 7, 0), 1 | 0xffffL << 16 | 0xffffffffL << 32, -1, -1, Long.MAX_VALUE, 0xffffffffL, -2, Long.MAX_VALUE);
    }

    private static void defaultsXor() {
        begin("bool b @ 1 = true; int i @ 2 = -5; E e @ 3; E f @ 4 = B; long j @ 5 = 9; maybe int m @ 6; maybe E n @ 7;");
        // b 0, i 32, e 16, f 64, j 128, m FLAG 1, 96, n FLAG 2, 80
        wire("R{}", rec(0, 3, 0), 0, 0, 0);
        wire("R{b:false,i:0,e:0,f:0,j:0}", rec(0, 3, 0), 1 | 1 << 16 | 0xfffffffbL << 32, 0xfffe, 9);
        wire("R{i:-4,e:B,f:A,j:8}", rec(0, 3, 0), 0xffffL << 16 | 7L << 32, 0xffff, 1);
        // MAYBE: of no default
        wire("R{m:0,n:A}", rec(0, 3, 0), 6, 1L << 16, 0);
        wire("R{m:-1,n:B}", rec(0, 3, 0), 6, 0xfffeL << 16 | 0xffffffffL << 32, 0);
    }

    private static void onesWritten() {
        begin("one o { int a @ 1; uint b @ 2; bool c @ 3; E d @ 4; zint e @ 5; fix f @ 6; long g @ 7; ulong h @ 8; text i @ 9; bytes j @ 10; N k @ 11; R l @ 12; }");
        layout(2, 1);
        long top = rec(0, 2, 1);
        wire("R{}", top, 0, 0, 0);
        wire("R{a:0}", top, 1, 0, 0);
        wire("R{a:-1}", top, 1, -1, 0);
        wire("R{a:-2147483648}", top, 1, -2147483648, 0);
        wire("R{b:4294967295}", top, 2, 0xffffffffL, 0);
        wire("R{c:false}", top, 3, 0, 0);
        wire("R{c:true}", top, 3, 1, 0);
        wire("R{d:A}", top, 4, 1, 0);
        wire("R{d:B}", top, 4, -2, 0);
        wire("R{d:0}", top, 4, 0, 0);
        wire("R{e:-1}", top, 5, -1, 0);
        wire("R{f:4294967295}", top, 6, 0xffffffffL, 0);
        wire("R{g:-9223372036854775807}", top, 7, -Long.MAX_VALUE, 0);
        wire("R{h:9223372036854775807}", top, 8, Long.MAX_VALUE, 0);
        wire("R{i:\"\"}", top, 9, 0, list(0, 2, 1), 0);
        wire("R{j:\"\"}", top, 10, 0, list(0, 2, 0));
        wire("R{i:\"a\"}", top, 9, 0, list(0, 2, 2), 'a');
        wire("R{j:\"a\"}", top, 10, 0, list(0, 2, 1), 'a');
        wire("R{k:{}}", top, 11, 0, rec(-1, 0, 0));
        wire("R{l:{}}", top, 12, 0, rec(0, 2, 1), 0, 0, 0);
        // the TAG goes by rising numbers, not as they stand
        begin("one o { int a @ 9; int b @ 1; int c @ 5; }");
        wire("R{a:7}", rec(0, 2, 0), 3, 7);
        wire("R{b:7}", rec(0, 2, 0), 1, 7);
        wire("R{c:7}", rec(0, 2, 0), 2, 7);
    }

    private static void flagsWritten() {
        begin("maybe bool a @ 1; maybe text b @ 2; maybe bytes c @ 3; maybe R d @ 4; maybe long e @ 5;");
        layout(2, 3);
        long top = rec(0, 2, 3);
        wire("R{}", top, 0, 0, 0, 0, 0);
        wire("R{a:false}", top, 1, 0, 0, 0, 0);
        wire("R{a:true}", top, 3, 0, 0, 0, 0);
        wire("R{b:\"\",c:\"\"}", top, 12, 0, 0, 0, 0);
        wire("R{b:\"x\"}", top, 4, 0, list(2, 2, 2), 0, 0, 'x');
        wire("R{c:\"x\"}", top, 8, 0, 0, list(1, 2, 1), 0, 'x');
        wire("R{d:{}}", top, 0, 0, 0, 0, rec(0, 2, 3), 0, 0, 0, 0, 0);
        wire("R{e:-1}", top, 16, -1, 0, 0, 0);
    }

    private static void textsWritten() {
        begin("text t @ 1; text d @ 2 = \"abc\"; bytes s @ 3; bytes e @ 4 = \"\\xff\";");
        long top = rec(0, 0, 4);
        wire("R{}", top, 0, 0, 0, 0);
        wire("R{t:\"\",d:\"abc\",s:\"\",e:\"\\xff\"}", top, 0, 0, 0, 0);
        // none, where the DEFAULT has some: a text's 0, a list of no bytes
        wire("R{d:\"\"}", top, 0, list(2, 2, 1), 0, 0, 0);
        wire("R{e:\"\"}", top, 0, 0, 0, list(0, 2, 0));
        // with its 0 a text of eight bytes has two words
        wire("R{t:\"1234567\"}", top, list(3, 2, 8), 0, 0, 0, 0x0037363534333231L);
        wire("R{t:\"12345678\"}", top, list(3, 2, 9), 0, 0, 0, 0x3837363534333231L, 0);
        wire("R{s:\"12345678\"}", top, 0, 0, list(1, 2, 8), 0, 0x3837363534333231L);
        wire("R{s:\"123456789\"}", top, 0, 0, list(1, 2, 9), 0, 0x3837363534333231L, '9');
        wire("R{s:\"\\x00\"}", top, 0, 0, list(1, 2, 1), 0, 0);
        wire("R{t:\"\\x00\"}", top, list(3, 2, 2), 0, 0, 0, 0);
    }

    private static void listsWritten() {
        begin("many bool b @ 1; many E e @ 2; many int i @ 3; many long j @ 4; many text t @ 5; many bytes s @ 6;");
        long top = rec(0, 0, 6);
        wire("R{}", top, 0, 0, 0, 0, 0, 0);
        wire("R{b:[false]}", top, list(5, 1, 1), 0, 0, 0, 0, 0, 0);
        wire("R{b:[false,true]}", top, list(5, 1, 2), 0, 0, 0, 0, 0, 2);
        wire("R{b:[true" + Check.times(",true", 63) + "]}", top, list(5, 1, 64), 0, 0, 0, 0, 0, -1);
        wire("R{b:[true" + Check.times(",true", 64) + "]}", top, list(5, 1, 65), 0, 0, 0, 0, 0, -1, 1);
        wire("R{e:[A,B,0,A]}", top, 0, list(4, 3, 4), 0, 0, 0, 0, 1L | 0xfffeL << 16 | 1L << 48);
        wire("R{e:[A,B,0,A,B]}", top, 0, list(4, 3, 5), 0, 0, 0, 0, 1L | 0xfffeL << 16 | 1L << 48, 0xfffe);
        wire("R{i:[-1]}", top, 0, 0, list(3, 4, 1), 0, 0, 0, 0xffffffffL);
        wire("R{i:[-1,1,2]}", top, 0, 0, list(3, 4, 3), 0, 0, 0, 0x1ffffffffL, 2);
        wire("R{j:[-1,0]}", top, 0, 0, 0, list(2, 5, 2), 0, 0, -1, 0);
        wire("R{t:[\"\"]}", top, 0, 0, 0, 0, list(1, 6, 1), 0, 0);
        wire("R{t:[\"\",\"a\",\"\"],s:[\"\",\"b\"]}", top, 0, 0, 0, 0, list(1, 6, 3), list(4, 6, 2),
            0, list(1, 2, 2), 0, 'a', 0, list(0, 2, 1), 'b');
    }

    private static void recordsWritten() {
        begin("int i @ 1; R r @ 2; many R l @ 3; maybe R m @ 4;");
        layout(1, 3);
        wire("R{r:{r:{i:5}}}", rec(0, 1, 3), 0, rec(2, 1, 3), 0, 0, 0, rec(2, 1, 3), 0, 0, 5, 0, 0, 0);
        wire("R{l:[{i:1},{i:2,r:{i:3}}],m:{i:4}}", rec(0, 1, 3), 0, 0, list(1, 7, 8), rec(13, 1, 3),
            rec(2, 1, 3), 1, 0, 0, 0, 2, rec(2, 1, 3), 0, 0, 3, 0, 0, 0, 4, 0, 0, 0);
    }

    private static void mapsWritten() {
        begin("map<int, bool> a @ 1; map<long, E> b @ 2; map<text, text> c @ 3; map<int, long> d @ 4; map<text, bool> e @ 5;");
        long top = rec(0, 0, 5);
        // key 32 bits at 0, item 1 bit at 32
        wire("R{a:<-1:true,3:false>}", top, list(4, 7, 2), 0, 0, 0, 0, rec(2, 1, 0), 0x1ffffffffL, 3);
        // nothing is xored, the first constant neither
        wire("R{b:<-1:A,0:B>}", top, 0, list(3, 7, 4), 0, 0, 0, rec(2, 2, 0), -1, 1, 0, 0xfffe);
        wire("R{c:<\"\":\"\",\"a\":\"\",\"b\":\"c\">}", top, 0, 0, list(2, 7, 6), 0, 0, rec(3, 0, 2),
            0, 0, list(3, 2, 2), 0, list(2, 2, 2), list(2, 2, 2), 'a', 'b', 'c');
        wire("R{d:<5:6>}", top, 0, 0, 0, list(1, 7, 2), 0, rec(1, 2, 0), 5, 6);
        wire("R{e:<\"\":true>}", top, 0, 0, 0, 0, list(0, 7, 2), rec(1, 1, 1), 1, 0);
    }

    /** An object comes with all that it leads to ahead of the next; a list's records all ahead of what theirs lead to. */
    private static void orderOfObjects() {
        begin("text t @ 1; R r @ 2; many R l @ 3; many text k @ 4;");
        long top = rec(0, 0, 4);
        wire("R{t:\"1\",r:{t:\"2\",k:[\"3\"]},l:[{t:\"4\",r:{t:\"5\"}},{t:\"6\"}],k:[\"7\"]}",
            top, list(3, 2, 2), rec(3, 0, 4), list(9, 7, 8), list(24, 6, 1),
            '1',
            list(3, 2, 2), 0, 0, list(1, 6, 1), '2', list(0, 2, 2), '3',
            rec(2, 0, 4), list(7, 2, 2), rec(7, 0, 4), 0, 0, list(9, 2, 2), 0, 0, 0,
            '4', list(3, 2, 2), 0, 0, 0, '5', '6',
            list(0, 2, 2), '7');
    }

    /** Messages of 12 records within one another are WRITTEN, and READ again, in each format. */
    private static void deepWritten() {
        String[] types = {"R", "many R", "map<int, R>", "map<text, R>", "maybe R"};
        String[] ways = {"r:", "r:[", "r:<-1:", "r:<\"a\":{},\"b\":", "r:"};
        String[] ends = {"", "]", ">", ">", ""};
        for (int i = 0; i < 6; i++) {
            int k = i % 5;
            begin(i == 5 ? "one o { int i @ 1; R r @ 2; }" : "int i @ 1; " + types[k] + " r @ 2;");
            String text = "R" + Check.times("{" + ways[k], 11) + "{i:7}" + Check.times(ends[k] + "}", 11);
            Check.due("12 deep", c.read(0, 0, text) > 0 ? c.house.told(0, 4) : 0, 12);
            for (int format = 0; format < 3; format++) {
                Check.due("encode of " + text, c.house.encode(0, format, 3) > 0 ? 1 : 0, 1);
                Check.due("decode", c.house.decode(0, 2, format, 3, 1), c.house.told(0, 2));
                Check.due("the same", c.house.same(0, 1), 1);
                Check.due("12 deep", c.house.told(1, 4), 12);
            }
            c.printed("it", 1, text);
        }
        // lists within one another, and a record in the last of them
        begin("R r @ 1; many R l @ 2; map<int, R> m @ 3; one o { R q @ 4; int i @ 5; }");
        String[] within = {"l:[", "m:<1:", "r:", "q:"};
        String[] behind = {"]", ">", "", ""};
        for (int i = 0; i < 4; i++) {
            for (int k = 2; k < 4; k++) {
                String text = "R{" + Check.times(within[i] + "{", 10) + within[k] + "{i:7}" + Check.times("}" + behind[i], 10) + "}";
                Check.due(text, c.read(0, 0, text) > 0 ? c.house.told(0, 4) : 0, 12);
                for (int format = 0; format < 3; format++) {
                    c.house.encode(0, format, 3);
                    Check.due("decode in " + format + " of " + text, c.house.decode(0, 2, format, 3, 1), c.house.told(0, 2));
                    Check.due("the same", c.house.same(0, 1), 1);
                }
            }
        }
    }

    private static void mostWritten() {
        begin("many Q l @ 1; long a @ 2; many text t @ 3; } record Q { long x @ 1; long y @ 2;");
        c.read(0, 0, "R{l:[{}" + Check.times(",{}", 246) + "]}");
        Check.due("1 + 3 + 1 + 2 x 247 words", c.house.encode(0, 2, 2), 499 * 8);
        c.put(0, "t = [\"\"]");
        Check.due("500 words", c.house.encode(0, 2, 2), 4000);
        Check.due("READ again", c.house.decode(0, 2, 2, 2, 1), 250);
        Check.due("the same", c.house.same(0, 1), 1);
        c.put(0, "t[0] = \"a\"");
        Check.due("501 words", c.house.encode(0, 2, 2), Check.FULL);
        Check.due("the row stays", c.house.size(2), 4000);
        c.put(0, "t = [\"\",\"\"]");
        Check.due("501 words, otherwise", c.house.encode(0, 2, 2), Check.FULL);
    }
}
