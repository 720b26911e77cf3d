/** Promise 5: place, types, type; with the faults of schemas and the LAYOUTS of records. */
public final class Promise05Types {
    private static Check c = new Check();

    public static void main(String[] args) {
        places();
        counts();
        layouts();
        tooMuch();
        laterFaults();
        values();
        services();
        Check.end();
    }

    private static void wrong(String what, String text, int fault, String at) {
        c.fault(what, c.schema(1, text), fault, text.indexOf(at));
    }

    private static void places() {
        Check.due("no fault yet", c.house.place(), Check.NO);
        c.fault("a fault", c.schema(0, "record 1"), 2, 7);
        c.schema(4, "");
        Check.due("BAD leaves it", c.house.place(), 7);
        Check.due("none", c.schema(0, "record R { int x @ 1; many int y @ 2; }"), 1);
        Check.due("no fault", c.house.place(), Check.NO);
        c.fault("read", c.read(0, 0, "R { x: y }"), 7, 7);
        c.read(0, 0, "R {}");
        Check.due("no fault of read", c.house.place(), Check.NO);
        c.load(0, "08");
        c.fault("decode", c.house.decode(0, 0, 0, 0, 0), 1, 1);
        c.fault("put", c.put(0, "z = 1"), 5, 0);
        Check.due("put to NOTHING", c.put(0, "y[1] = 1"), Check.NO);
        Check.due("NO leaves it", c.house.place(), 0);
        c.fault("ask", c.ask(0, 0, "x.x"), 5, 1);
        c.fault("remove", c.remove(0, "x["), 2, 2);
        Check.due("remove of nothing", c.remove(0, "y[0]"), Check.NO);
        Check.due("NO leaves it", c.house.place(), 2);
        c.remove(0, "y");
        Check.due("no fault of remove", c.house.place(), Check.NO);
    }

    private static void counts() {
        WireHouse x = c.house;
        Check.due("schema", c.schema(0, "enum E { A = 1; B = 2; } service S { } record R { one o { int a @ 1; int b @ 2; } int c @ 3; } record N { } service T { }"), 3);
        Check.due("types", x.types(0, 0), 3);
        Check.due("services", x.types(0, 1), 2);
        Check.due("another what", x.types(0, 2), Check.BAD);
        Check.due("another what ahead of no schema", x.types(3, -1), Check.BAD);
        Check.due("no such schema", x.types(4, 0), Check.BAD);
        Check.due("none there", x.types(3, 0), Check.NO);
        // of R the TAG at 0, its place at 64, c at 32
        int[][] due = {{0, 2, 0, 0, 0}, {1, 3, 1, 2, 0}, {1, 0, 0, 0, 0}};
        for (int k = 0; k < 3; k++) {
            for (int what = 0; what < 5; what++) {
                Check.due("type(0, " + k + ", " + what + ")", x.type(0, k, what), due[k][what]);
            }
        }
        Check.due("no such type", x.type(0, 3, 0), Check.BAD);
        Check.due("a type below 0 of no schema", x.type(3, -1, 0), Check.BAD);
        Check.due("another what", x.type(0, 0, 5), Check.BAD);
        Check.due("none there", x.type(3, 99, 0), Check.NO);
    }

    private static void layouts() {
        WireHouse x = c.house;
        c.schema(0, "enum E { A = 1; } record R { bool a @ 9; maybe bool b @ 1; int c @ 2; E d @ 3; maybe text e @ 4; long f @ 5; one o { R g @ 7; bool h @ 30; } R i @ 6; many int j @ 8; }");
        // by rising numbers: b FLAG 0, b 1, c 32, d 16, e FLAG 2, f 64, o TAG 128, its 64 at 192, a 3
        Check.due("D", x.type(0, 1, 3), 4);
        Check.due("P: e, i, o, j", x.type(0, 1, 4), 4);
        int[][] due = {{3, -2, -2}, {1, -2, 0}, {32, -2, -2}, {16, -2, -2}, {-2, 0, 2}, {64, -2, -2},
            {-2, 2, 128}, {192, -2, 128}, {-2, 1, -2}, {-2, 3, -2}};
        for (int j = 0; j < due.length; j++) {
            for (int what = 0; what < 3; what++) {
                Check.due("field(0, 1, " + j + ", " + (what + 6) + ")", x.field(0, 1, j, what + 6), due[j][what]);
            }
        }
    }

    private static String repeat(String first, String each, String last, int n) {
        StringBuilder text = new StringBuilder(first);
        for (int i = 1; i <= n; i++) {
            text.append(each.replace("#", String.valueOf(i)));
        }
        return text.append(last).toString();
    }

    private static void tooMuch() {
        Check.due("30 types", c.schema(1, repeat("", "record R#{}", "", 30)), 30);
        wrong("31 types", repeat("", "record R#{}", "", 31), 3, "R31");
        Check.due("16 constants", c.schema(1, repeat("enum E{", "C#=#;", "}", 16)), 1);
        wrong("17 constants", repeat("enum E{", "C#=#;", "}", 17), 3, "C17");
        Check.due("24 fields", c.schema(1, repeat("record R{one o{int z@99;}", "int f#@#;", "}", 23)), 1);
        wrong("25 fields", repeat("record R{one o{int z@99;}", "int f#@#;", "}", 24), 3, "f24");
        Check.due("8 ones", c.schema(1, repeat("record R{", "one o#{int f#@#;}", "}", 8)), 1);
        wrong("9 ones", repeat("record R{", "one o#{int f#@#;}", "}", 9), 3, "o9");
        Check.due("4 services", c.schema(1, repeat("", "service S#{}", "", 4)), 0);
        wrong("5 services", repeat("", "service S#{}", "", 5), 3, "S5");
        Check.due("8 cells", c.schema(1, repeat("service S{", "cell c#;", "}", 8)), 0);
        wrong("9 cells", repeat("service S{", "cell c#;", "}", 9), 3, "c9");
        Check.due("10 calls", c.schema(1, repeat("record R{}service S{", "call k#(R)R@#{}", "}", 10)), 1);
        wrong("11 calls", repeat("record R{}service S{", "call k#(R)R@#{}", "}", 11), 3, "k11");
        String open = "record R{}service S{call k(R)R@1{fail ";
        Check.due("100 NODES", c.schema(1, repeat(open + "-1", "+1", ";}}", 49)), 1);
        Check.due("NODES", c.house.service(1, 0, 0, 6), 100);
        c.fault("101 NODES", c.schema(1, repeat(open + "- -1", "+1", ";}}", 49)), 3, open.length() + 100 + 1);
        c.fault("101 NODES of two steps", c.schema(1, repeat(open + "1", "+1", ";fail 1+1;}}", 49)), 3, open.length() + 99 + 7);
        Check.due("10 within", c.schema(1, open + "((((-!((((1)))) )))) ;}}"), 1);
        c.fault("11 within", c.schema(1, open + "((((-!((((!1)))) )))) ;}}"), 3, open.length() + 10);
        c.fault("11 within", c.schema(1, open + "((((-!((((( 1"), 3, open.length() + 10);
    }

    private static void laterFaults() {
        wrong("4 types", "record A { } enum A { X = 1; }", 4, "A { X");
        c.fault("4 a service", c.schema(1, "service A { } record A { }"), 4, 21);
        wrong("4 constants", "enum E { A = 1; B = 2; A = 3; }", 4, "A = 3");
        wrong("4 a one and a field", "record R { one x { int a @ 1; } int x @ 2; }", 4, "x @ 2");
        wrong("4 in ones", "record R { one x { int a @ 1; } one y { int a @ 2; } }", 4, "a @ 2");
        wrong("4 a call and a cell", "record R { } service S { cell a; call a (R) R @ 1 { } }", 4, "a (R)");
        wrong("5 a type", "record R { X x @ 1; }", 5, "X");
        wrong("5 a service is no type", "record R { S x @ 1; } service S { }", 5, "S x");
        wrong("6 a number", "record R { int x @ 2001; }", 6, "2001");
        wrong("6 twice", "record R { int x @ 7; int y @ 7; }", 6, "7; }");
        wrong("6 kept", "record R { keep 7, 8; int y @ 8; }", 6, "8; }");
        wrong("6 kept later", "record R { int y @ 8; keep 9, 8; }", 6, "8; }");
        wrong("6 kept twice", "record R { keep 9, 9; }", 6, "9; }");
        Check.due("2000", c.schema(1, "record R { int y @ 2000; keep 1; }"), 1);
        wrong("6 a constant", "enum E { A = -32769; }", 6, "-");
        wrong("6 a constant", "enum E { A = 32768; }", 6, "32768");
        Check.due("-32768", c.schema(1, "enum E { A = - 32768; B = 32767; }"), 1);
        wrong("6 a constant's number twice", "enum E { A = 0; B = -0; }", 6, "-0");
        wrong("7 many in a one", "record R { one o { many int x @ 1; } }", 7, "many");
        wrong("7 maybe in a one", "record R { one o { maybe int x @ 1; } }", 7, "maybe");
        wrong("7 map in a one", "record R { one o { map<int, int> x @ 1; } }", 7, "map");
        wrong("7 many map", "record R { many map<int, int> x @ 1; }", 7, "map");
        wrong("7 a map's first type", "record R { map<bool, int> x @ 1; }", 7, "bool");
        wrong("7 bytes", "record R { map<bytes, int> x @ 1; }", 7, "bytes");
        wrong("7 a record", "record R { map<R, int> x @ 1; }", 7, "R, int");
        wrong("5 ahead of 7", "record R { map<X, int> x @ 1; }", 5, "X");
        wrong("the least place", "record R { int x @ 0; int x @ 1; }", 6, "0");
        wrong("the least of one place", "record R { int x @ 1 = y; Y z @ 3; }", 7, "y;");
        c.fault("1 to 3 first", c.schema(1, "record R { X x @ 1; } record"), 2, 28);
    }

    private static void values() {
        Check.due("values", c.schema(1, "enum E { A = 1; } record R { bool a @ 1 = true; int b @ 2 = -2147483648; uint c @ 3 = 4294967295; E d @ 4 = A; E e @ 5 = -32768; text f @ 6 = \"\\xc3\\xa9\"; bytes g @ 7 = \"\\xff\"; ulong h @ 8 = -0; long i @ 9 = -9223372036854775807; }"), 2);
        String[][] wrong = {{"int", "2147483648", "7"}, {"int", "-2147483649", "7"}, {"uint", "-1", "7"},
            {"fix", "4294967296", "7"}, {"ulong", "-1", "7"}, {"fixlong", "-1", "7"}, {"bool", "1", "7"},
            {"int", "true", "7"}, {"int", "\"1\"", "7"}, {"text", "1", "7"}, {"text", "\"\\xff\"", "7"},
            {"text", "\"\\xed\\xa0\\x80\"", "7"}, {"text", "\"\\xc0\\x80\"", "7"},
            {"text", "\"\\xf4\\x90\\x80\\x80\"", "7"}, {"bytes", "A", "7"}, {"E", "B", "5"},
            {"E", "32768", "7"}, {"E", "true", "7"}, {"int", "A", "7"}, {"R", "1", "7"},
            {"many int", "1", "7"}, {"maybe int", "1", "7"}, {"map<int, int>", "1", "7"}};
        c = new Check();
        for (String[] w : wrong) {
            String text = "enum E { A = 1; } record R { " + w[0] + " x @ 9 = " + w[1] + "; }";
            int at = text.indexOf("@ 9 = ") + 6;
            c.fault(w[0] + " = " + w[1], c.schema(1, text), Integer.parseInt(w[2]), at);
        }
        wrong("a value in a one", "record R { one o { int x @ 1 = 3; } }", 7, "3;");
    }

    private static void services() {
        String record = "enum E { A = 1; } record R { int x @ 1; many int m @ 2; text t @ 3; maybe E e @ 4; one o { bool b @ 5; R r @ 6; } } ";
        Check.due("steps", c.schema(1, record + "service S { cell c; call k (R) R @ 0 { c = in.t + in.m; } } service T { call k (R) R @ 1000 { out.e = 1; out.b = 2; out.x = !-1 % 2 <= 3; fail 0; } }"), 2);
        wrong("5 a call's record", record + "service S { call k (E) R @ 1 { } }", 5, "E) R");
        wrong("5 its second", record + "service S { call k (R) S @ 1 { } }", 5, "S @ 1");
        wrong("5 a cell", record + "service S { cell c; call k (R) R @ 1 { d = 1; } }", 5, "d = 1");
        wrong("5 a cell in an exp", record + "service S { cell c; call k (R) R @ 1 { c = 1 + x; } }", 5, "x; } }");
        wrong("5 a field of in", record + "service S { cell c; call k (R) R @ 1 { c = in.o; } }", 5, "o; } }");
        wrong("5 a field of out", record + "service S { call k (R) R @ 1 { out.o = 1; } }", 5, "o = 1");
        wrong("7 out of a MANY", record + "service S { call k (R) R @ 1 { out.m = 1; } }", 7, "m = 1");
        wrong("7 out of a text", record + "service S { call k (R) R @ 1 { out.t = 1; } }", 7, "t = 1");
        wrong("7 out of a record", record + "service S { call k (R) R @ 1 { out.r = 1; } }", 7, "r = 1");
        wrong("7 out of a type that means nothing", "service S { call k (R) R @ 1 { out.x = 1; } } record R { X x @ 1; }", 7, "x = 1");
        wrong("6 a call's number", record + "service S { call k (R) R @ 1001 { } }", 6, "1001");
        wrong("6 twice", record + "service S { call k (R) R @ 1 { } call l (R) R @ 1 { } }", 6, "1 { } }");
        wrong("2 two comparisons", record + "service S { call k (R) R @ 1 { fail 1 < 2 < 3; } }", 2, "< 3");
        wrong("2 a cell behind a call", record + "service S { call k (R) R @ 1 { } cell c; }", 2, "cell");
        wrong("2 a one without fields", "record R { one o { } }", 2, "} }");
        wrong("2 an enum without constants", "enum E { }", 2, "}");
    }
}
