/** Promise 7: describe, mark, read. */
public final class Promise07Describe {
    private static Check C = new Check();

    public static void main(String[] args) {
        described();
        marks();
        messages();
        faults();
        limits();
        Check.end();
    }

    private static void described() {
        WireHouse x = C.house;
        C.schema(0, "enum E{A=-007;}#x\nrecord R{text t@01=\"\\x41\\\"\";map<int,E>m@2;}service S{cell c;call k(R)R@00{c=-(1+in.m);}}");
        String due = "enum E { A = - 7 ; } record R { text t @ 1 = \"\\x41\\\"\" ; map < int , E > m @ 2 ; } "
            + "service S { cell c ; call k ( R ) R @ 0 { c = - ( 1 + in . m ) ; } }";
        Check.due("describe", x.describe(0, 2), due.length());
        C.row("WRITTEN OUT", 2, due);
        C.tape(due);
        x.schema(1);
        x.describe(1, 3);
        Check.due("WRITTEN OUT again", x.equal(2, 3), 1);
        Check.due("no row", x.describe(2, 8), Check.BAD);
        Check.due("no such schema", x.describe(-1, 0), Check.BAD);
        Check.due("none there", x.describe(2, 0), Check.NO);
        C.schema(2, "");
        Check.due("nothing", x.describe(2, 3), 0);
        C = new Check();
        x = C.house;
        C.load(2, "41");
        // each number but the first is told with two blanks more
        StringBuilder keeps = new StringBuilder("record R{keep 1");
        for (int i = 2; i <= 690; i++) {
            keeps.append(',').append(i);
        }
        Check.due("many numbers", C.schema(2, keeps.append(";}").toString()), 1);
        Check.due("no room for " + keeps.length(), x.describe(2, 2), Check.FULL);
        C.row("the row stays", 2, "A");
        C = new Check();
        x = C.house;
        StringBuilder exactly = new StringBuilder("record R{keep 1");
        for (int i = 2; i <= 680; i++) {
            exactly.append(',').append(i);
        }
        C.schema(2, exactly.append(";}").toString());
        int n = x.describe(2, 2);
        // what lacks up to 4000, and one more, comes as the record's NAME
        C.schema(2, exactly.toString().replace("R{", Check.times("R", 1 + 4000 - n) + "{"));
        Check.due("4000 bytes", x.describe(2, 2), 4000);
        C.schema(2, exactly.toString().replace("R{", Check.times("R", 2 + 4000 - n) + "{"));
        Check.due("4001 bytes", x.describe(2, 2), Check.FULL);
    }

    private static long fnv(String text) {
        long h = 0xcbf29ce484222325L;
        for (int i = 0; i < text.length(); i++) {
            h = (h ^ text.charAt(i)) * 1099511628211L;
        }
        return h;
    }

    private static void marks() {
        C = new Check();
        WireHouse x = C.house;
        C.schema(0, "record A { B b @ 1; C c @ 2; } record B { D d @ 1; A a @ 2; } record C { many E e @ 1; } record D { } enum E { X = 1; } service S { call k (C) D @ 1 { } }");
        String a = "record A { B b @ 1 ; C c @ 2 ; } ";
        String b = "record B { D d @ 1 ; A a @ 2 ; } ";
        String cc = "record C { many E e @ 1 ; } ";
        String d = "record D { } ";
        String e = "enum E { X = 1 ; } ";
        Check.due("A, then B, C, then D, E", x.mark(0, 0, 0), fnv(a + b + cc + d + e));
        Check.due("B, then D, A, then C, E", x.mark(0, 0, 1), fnv(b + d + a + cc + e));
        Check.due("an enum", x.mark(0, 0, 4), fnv(e));
        Check.due("a service", x.mark(0, 1, 0), fnv("service S { call k ( C ) D @ 1 { } } " + cc + d + e));
        Check.due("no type", x.mark(0, 0, 5), 0);
        Check.due("no service", x.mark(0, 1, 1), 0);
        Check.due("no sort", x.mark(0, 2, 0), 0);
        Check.due("below 0", x.mark(0, 0, -1), 0);
        Check.due("no schema", x.mark(3, 0, 0), 0);
        Check.due("no such schema", x.mark(4, 0, 0), 0);
    }

    private static final String SCHEMA = "enum E { A = 1; B = -2; } record N { } record R { bool b @ 1; int i @ 2 = 5; uint u @ 3; zlong z @ 4; ulong w @ 5; E e @ 6; text t @ 7 = \"d\"; bytes y @ 8; R r @ 9; maybe int mi @ 10; many int li @ 11; many R lr @ 12; map<int, text> mt @ 13; map<text, R> mr @ 14; one o { int p @ 15; text q @ 16; N n @ 17; } map<ulong, bool> mb @ 18; many text lt @ 19; many bytes ly @ 20; }";

    private static void values(String rec, int values, int bytes) {
        Check.due("VALUES of " + rec, C.read(0, 0, "R " + rec), values);
        Check.due("BYTES of " + rec, C.house.told(0, 3), bytes);
    }

    private static void messages() {
        C = new Check();
        C.schema(0, SCHEMA);
        values("{}", 0, 0);
        values("{b: false, i: 5, t: \"d\", e: A, li: [], mt: <>}", 0, 0);
        values("{b: true, i: - 6, t: \"\", e: B}", 4, 0);
        values("{mi: 0, r: {}, n: {}}", 3, 0);
        values("{li: [0, 0], lr: [{}, {i: 1}]}", 7, 0);
        values("{mt: <1: \"ab\", -1: \"\">, mr: <\"k\": {y: \"\\xff\"}>}", 9, 4);
        values("{ e : 7 , u : 4294967295, w : 9223372036854775807, z : -9223372036854775807 }", 4, 0);
        values("{lt: [\"a\", \"\"], ly: [\"bc\"], mb: <1: true>}", 8, 3);
        Check.due("another record", C.read(0, 1, "N{}"), 0);
        Check.due("its record", C.house.told(1, 1), 1);
        C.tape("R {}");
        Check.due("no such schema", C.house.read(4, 0), Check.BAD);
        Check.due("no such message", C.house.read(0, 12), Check.BAD);
        Check.due("no schema there", C.house.read(3, 0), Check.NO);
        Check.due("the tape stays", C.house.net(4), 4);
        Check.due("until it is read", C.house.read(0, 0), 0);
        Check.due("the tape is empty", C.house.net(4), 0);
    }

    private static void wrong(String text, int fault, int at) {
        C.fault(text, C.read(0, 0, text), fault, at);
    }

    private static void faults() {
        C = new Check();
        C.schema(0, SCHEMA);
        C.read(0, 0, "R {i: 77}");
        wrong("", 2, 0);
        wrong("X {}", 5, 0);
        wrong("E {}", 5, 0);
        wrong("record {}", 2, 0);
        wrong("R 1", 7, 2);
        wrong("R )", 2, 2);
        wrong("R", 2, 1);
        wrong("R {} ,", 2, 5);
        wrong("R {} \"", 1, 5);
        wrong("R {x: 1}", 5, 3);
        wrong("R {o: 1}", 5, 3);
        wrong("R {i 1}", 2, 5);
        wrong("R {i: 1,}", 2, 8);
        wrong("R {i: 1, i: 1}", 4, 9);
        wrong("R {p: 1, q: \"\"}", 4, 9);
        wrong("R {i: ;}", 2, 6);
        wrong("R {i: true}", 7, 6);
        wrong("R {i: \"1\"}", 7, 6);
        wrong("R {i: A}", 7, 6);
        wrong("R {i: -x}", 2, 7);
        wrong("R {t: -x}", 7, 6);
        wrong("R {i: 2147483648}", 7, 6);
        wrong("R {i: - 2147483649}", 7, 6);
        wrong("R {u: -1}", 7, 6);
        wrong("R {w: -1}", 7, 6);
        wrong("R {b: 1}", 7, 6);
        wrong("R {e: C}", 5, 6);
        wrong("R {e: 32768}", 7, 6);
        wrong("R {e: true}", 7, 6);
        wrong("R {t: \"\\x80\"}", 7, 6);
        Check.due("bytes may be any", C.read(0, 1, "R {y: \"\\x80\"}"), 1);
        wrong("R {r: 1}", 7, 6);
        wrong("R {r: [1]}", 7, 6);
        wrong("R {li: 1}", 7, 7);
        wrong("R {li: )}", 2, 7);
        wrong("R {li: [1 2]}", 2, 10);
        wrong("R {li: [1,]}", 2, 10);
        wrong("R {li: [true]}", 7, 8);
        wrong("R {mt: [1]}", 7, 7);
        wrong("R {mt: <1: \"\", 1: \"\">}", 4, 15);
        wrong("R {mt: <0: \"\", -0: \"\">}", 4, 15);
        wrong("R {mt: <0: \"\", 00 = \"\">}", 4, 15);
        wrong("R {mt: <\"0\": \"\">}", 7, 8);
        wrong("R {mt: <2147483648: \"\">}", 7, 8);
        wrong("R {mt: <1 \"\">}", 2, 10);
        wrong("R {mr: <\"\\xff\": {}>}", 7, 8);
        wrong("R {mr: <\"a\": {}, \"\\x61\": {}>}", 4, 17);
        C.printed("a fault leaves the message", 0, "R{i:77}");
    }

    private static void limits() {
        C = new Check();
        C.schema(0, SCHEMA);
        String twelve = Check.times("{r:", 11) + "{" + Check.times("}", 12);
        Check.due("12 deep", C.read(0, 0, "R " + twelve), 11);
        wrong("R {r:" + twelve + "}", 3, 2 + 12 * 3);
        wrong("R {lr:[" + twelve + "]}", 3, 2 + 5 + 11 * 3);
        C = new Check();
        C.schema(0, SCHEMA);
        String many = Check.times("0,", 398) + "0";
        Check.due("400 VALUES", C.read(0, 0, "R {li: [" + many + "]}"), 400);
        wrong("R {li: [0," + many + "]}", 3, 0);
        wrong("R {li: [0," + many + "]} }", 2, 2 + 6 + 2 + 797 + 3);
        Check.due("DEFAULTS do not count", C.read(0, 0, "R {li: [" + many + "], i: 5}"), 400);
        C = new Check();
        C.schema(0, SCHEMA);
        String sixty = "\"" + Check.times("x", 60) + "\",";
        String bytes = Check.times(sixty, 33) + "\"" + Check.times("y", 20) + "\"";
        Check.due("2000 BYTES", C.read(0, 0, "R {ly: [" + bytes + "]}"), 35);
        Check.due("2000 BYTES", C.house.told(0, 3), 2000);
        wrong("R {y: \"1\", ly: [" + bytes + "]}", 3, 0);
        Check.due("the DEFAULT does not count", C.read(0, 0, "R {t: \"d\", ly: [" + bytes + "]}"), 35);
    }
}
