/** Section 8 of the document: each answer of judge(), and the number that it is told by. */
public final class Edges08Judge {
    private static final int A = 0, W = 1, L = 2, B = 3;
    private static final int STREAM = 0, LINEAR = 1, SLOTTED = 2;
    private static final String[] TYPES = {"bool", "int", "uint", "zint", "fix", "long", "ulong", "zlong", "fixlong", "text", "bytes", "E", "N"};
    /** Of KINDS as they stand in TYPES, a row for each of OLD, whether NEW has its numbers and so on. */
    private static final String[][] KINDS = {{
        "AWWLLWWLLLLWL", "LALLLWLLLLLLL", "LLALLWWLLLLLL", "LLLALLLWLLLLL", "LLLLALLLLLLLL", "LLLLLALLLLLLL", "LLLLLLALLLLLL",
        "LLLLLLLALLLLL", "LLLLLLLLALLLL", "LLLLLLLLLAWLB", "LLLLLLLLLBALB", "LWLLLWLLLLLAL", "LLLLLLLLLBBLA"}, {
        "AWWWWBBBBBBBB", "BALWLBBBBBBBB", "BLALWBBBBBBBB", "BWLALBBBBBBBB", "BLWLABBBBBBBB", "BBBBBALWLBBBB", "BBBBBLALWBBBB",
        "BBBBBWLALBBBB", "BBBBBLWLABBBB", "BBBBBBBBBAWBB", "BBBBBBBBBBABB", "BWLWLBBBBBBAB", "BBBBBBBBBBBBA"}, {
        "ABBBBBBBBBBBB", "BALWLBBBBBBBB", "BLALWBBBBBBBB", "BWLALBBBBBBBB", "BLWLABBBBBBBB", "BBBBBALWLBBBB", "BBBBBLALWBBBB",
        "BBBBBWLALBBBB", "BBBBBLWLABBBB", "BBBBBBBBBABBB", "BBBBBBBBBBABB", "BBBBBBBBBBBAB", "BBBBBBBBBBBBA"}};

    public static void main(String[] args) {
        for (int format = 0; format < 3; format++) {
            kinds(format, "maybe ", "");
            kinds(format, "many ", "");
            kinds(format, "one o { ", " }");
            kinds(format, "map<int, ", "");
            keys(format);
        }
        greatest();
        empty();
        streamMany();
        streamSingle();
        streamDefaults();
        streamOnes();
        linearOrder();
        linearSorts();
        linearEnums();
        linearOnes();
        slottedPlaces();
        slottedDefaults();
        slottedOnes();
        maps();
        records();
        rings();
        ofAllSchemas();
        refused();
        Check.end();
    }

    private static String field(String before, String type, String behind) {
        return before + type + (before.startsWith("map") ? "> " : " ") + "a @ 7;" + behind;
    }

    /** What two kinds come to in a format: of MANY in a STREAM two WIRES break. */
    private static int due(int format, String before, int old, int fresh) {
        String wires = "0000500012202";
        if (format == STREAM && before.startsWith("many") && wires.charAt(old) != wires.charAt(fresh)) {
            return B;
        }
        return "AWLB".indexOf(KINDS[format][old].charAt(fresh));
    }

    private static void kinds(int format, String before, String behind) {
        Check c = new Check();
        StringBuilder text = new StringBuilder("enum E { X = 1; } record N { }");
        for (String type : TYPES) {
            text.append(" record R").append(type).append("{").append(field(before, type, behind)).append("}");
        }
        Check.due("schema", c.schema(0, text.toString()), 15);
        for (int old = 0; old < 13; old++) {
            for (int fresh = 0; fresh < 13; fresh++) {
                int due = due(format, before, old, fresh);
                String what = format + ": " + field(before, TYPES[old], behind) + " as " + field(before, TYPES[fresh], behind);
                Check.due(what, c.house.judge(0, 2 + old, 0, 2 + fresh, format), due);
                Check.due("where " + what, c.house.where(), due == A ? 0 : 7);
            }
        }
    }

    /** KINDS of keys: of int .. fixlong, and text. */
    private static void keys(int format) {
        Check c = new Check();
        StringBuilder text = new StringBuilder("enum E { X = 1; } record N { }");
        for (int i = 1; i < 10; i++) {
            text.append(" record R").append(TYPES[i]).append("{ map<").append(TYPES[i]).append(", bool> a @ 7; }");
        }
        c.schema(0, text.toString());
        for (int old = 1; old < 10; old++) {
            for (int fresh = 1; fresh < 10; fresh++) {
                String what = format + ": keys " + TYPES[old] + " as " + TYPES[fresh];
                Check.due(what, c.house.judge(0, 1 + old, 0, 1 + fresh, format), "AWLB".indexOf(KINDS[format][old].charAt(fresh)));
            }
        }
    }

    private static final String REST = " record N { int n @ 1; } record M { long n @ 1; } record X { text n @ 1; } record K { keep 1; }"
        + " enum E { A = 1; C = 2; } enum F { A = 1; D = 3; } enum G { A = 1; C = 2; D = 3; } enum H { D = 3; A = 1; }";

    /** Judges record R of two schemas told by the parts of R alone. */
    private static void judge(int format, String old, String fresh, int due, int where) {
        Check c = new Check();
        String what = format + ": " + old + " as " + fresh;
        Check.due("schema " + old, c.schema(0, "record R {" + old + "}" + REST), 9);
        Check.due("schema " + fresh, c.schema(1, "record R {" + fresh + "}" + REST), 9);
        Check.due(what, c.house.judge(0, 0, 1, 0, format), due);
        Check.due("where " + what, c.house.where(), where);
    }

    private static void all(String old, String fresh, int due, int where) {
        for (int format = 0; format < 3; format++) {
            judge(format, old, fresh, due, where);
        }
    }

    /** The greatest that any field has, and the least number of a field that has it. */
    private static void greatest() {
        judge(STREAM, "int a @ 1; int b @ 2; int c @ 3;", "long a @ 1; uint b @ 2; uint c @ 3;", L, 2);
        judge(STREAM, "int c @ 3; int b @ 2; int a @ 1;", "uint c @ 3; uint b @ 2; long a @ 1;", L, 2);
        judge(STREAM, "int a @ 1999; int b @ 2000;", "long a @ 1999; long b @ 2000;", W, 1999);
        judge(STREAM, "text a @ 1; bytes b @ 2;", "int a @ 1; text b @ 2;", B, 2);
        judge(LINEAR, "int a @ 9; int b @ 8; int c @ 7;", "zint a @ 1; zint b @ 2; uint c @ 3;", L, 7);
        judge(LINEAR, "int a @ 9; int b @ 8; int c @ 7;", "zint a @ 1; zint b @ 2; int c @ 3;", W, 8);
        judge(SLOTTED, "int a @ 9; int b @ 8;", "zint a @ 9; zint b @ 8;", W, 8);
        judge(SLOTTED, "int a @ 9; int b @ 8;", "uint a @ 9; zint b @ 8;", L, 9);
    }

    private static void empty() {
        all("", "", A, 0);
        all("keep 1;", "keep 2;", A, 0);
        judge(STREAM, "", "int a @ 1;", A, 0);
        judge(STREAM, "int a @ 1;", "", A, 0);
        judge(STREAM, "int a @ 1;", "text b @ 2;", A, 0);
        judge(LINEAR, "", "int a @ 1;", B, 0);
        judge(LINEAR, "int a @ 1;", "", B, 0);
        judge(LINEAR, "", "keep 1, 2;", A, 0);
        judge(SLOTTED, "", "int a @ 1;", A, 0);
        judge(SLOTTED, "int a @ 1;", "", B, 1);
        judge(SLOTTED, "int a @ 5; int b @ 3;", "", B, 3);
    }

    private static void stream(String old, String fresh, int due) {
        judge(STREAM, old + " a @ 7;", fresh + " a @ 7;", due, due == A ? 0 : 7);
    }

    private static void streamMany() {
        // MANY numbers as one that is not: whatever number
        for (String type : "bool int uint zint fix long fixlong E".split(" ")) {
            stream("many int", type, L);
            stream("many fix", "maybe " + type, L);
        }
        stream("many int", "text", B);
        stream("many int", "bytes", B);
        stream("many int", "N", B);
        stream("many E", "maybe text", B);
        // of others KINDS, at least LOSES
        stream("many text", "text", L);
        stream("many text", "maybe text", L);
        stream("many text", "bytes", L);
        stream("many bytes", "text", B);
        stream("many text", "int", L);
        stream("many text", "N", B);
        stream("many N", "N", L);
        stream("many N", "M", L);
        stream("many N", "text", B);
        stream("many N", "int", L);
        // what is not MANY as MANY
        stream("int", "many int", W);
        stream("maybe int", "many int", W);
        stream("int", "many long", W);
        stream("int", "many uint", L);
        stream("int", "many zint", L);
        stream("int", "many fix", L);
        stream("int", "many text", L);
        stream("int", "many N", L);
        stream("fix", "many fix", W);
        stream("fix", "many int", L);
        stream("text", "many int", B);
        stream("bytes", "many fix", B);
        stream("N", "many long", B);
        stream("maybe text", "many E", B);
        stream("text", "many text", W);
        stream("text", "many bytes", W);
        stream("bytes", "many text", B);
        stream("N", "many N", W);
        stream("N", "many M", W);
        stream("M", "many N", L);
        stream("N", "many text", B);
        judge(STREAM, "int a @ 7 = 5;", "many int a @ 7;", W, 7);
        judge(STREAM, "one o { int a @ 7; }", "many int a @ 7;", W, 7);
        judge(STREAM, "many text a @ 7;", "one o { text a @ 7; }", L, 7);
    }

    /** At least LOSES if of both just one is SINGLE, in no one and no record. */
    private static void streamSingle() {
        stream("int", "maybe int", L);
        stream("maybe int", "int", L);
        stream("text", "maybe text", L);
        stream("maybe bytes", "bytes", L);
        stream("maybe int", "maybe long", W);
        stream("maybe text", "bytes", L);
        stream("maybe bytes", "text", B);
        stream("N", "maybe N", A);
        stream("maybe N", "N", A);
        stream("maybe N", "M", W);
        judge(STREAM, "int a @ 7;", "one o { int a @ 7; }", L, 7);
        judge(STREAM, "one o { int a @ 7; }", "int a @ 7;", L, 7);
        judge(STREAM, "maybe int a @ 7;", "one o { int a @ 7; }", A, 0);
        judge(STREAM, "one o { int a @ 7; }", "maybe int a @ 7;", A, 0);
        judge(STREAM, "N a @ 7;", "one o { N a @ 7; }", A, 0);
        judge(STREAM, "one o { N a @ 7; }", "N a @ 7;", A, 0);
        judge(STREAM, "int a @ 7;", "N a @ 7;", L, 7);
        judge(STREAM, "text a @ 7;", "N a @ 7;", B, 7);
    }

    private static void streamDefaults() {
        judge(STREAM, "int a @ 7 = 3;", "int a @ 7 = 3;", A, 0);
        judge(STREAM, "int a @ 7 = 3;", "int a @ 7 = 4;", L, 7);
        judge(STREAM, "int a @ 7 = 0;", "int a @ 7;", A, 0);
        judge(STREAM, "int a @ 7 = -3;", "long a @ 7 = -3;", W, 7);
        judge(STREAM, "int a @ 7 = -3;", "long a @ 7;", L, 7);
        judge(STREAM, "bool a @ 7 = true;", "int a @ 7 = 1;", W, 7);
        judge(STREAM, "bool a @ 7 = true;", "int a @ 7;", L, 7);
        judge(STREAM, "bool a @ 7 = false;", "int a @ 7;", W, 7);
        judge(STREAM, "E a @ 7;", "int a @ 7;", L, 7);
        judge(STREAM, "E a @ 7;", "int a @ 7 = 1;", W, 7);
        judge(STREAM, "E a @ 7;", "F a @ 7;", A, 0);
        judge(STREAM, "E a @ 7;", "H a @ 7;", L, 7);
        judge(STREAM, "E a @ 7;", "H a @ 7 = A;", A, 0);
        judge(STREAM, "E a @ 7;", "H a @ 7 = 1;", A, 0);
        judge(STREAM, "text a @ 7 = \"x\";", "bytes a @ 7 = \"x\";", W, 7);
        judge(STREAM, "text a @ 7 = \"x\";", "bytes a @ 7;", L, 7);
        judge(STREAM, "text a @ 7 = \"xy\";", "text a @ 7 = \"x\";", L, 7);
        judge(STREAM, "text a @ 7 = \"x\";", "text a @ 7 = \"\\x78\";", A, 0);
        judge(STREAM, "text a @ 7 = \"\";", "text a @ 7;", A, 0);
        // of a MAYBE, or in a one, there is none
        judge(STREAM, "maybe E a @ 7;", "maybe H a @ 7;", A, 0);
        judge(STREAM, "one o { E a @ 7; }", "maybe int a @ 7;", W, 7);
    }

    /** NEW's is in a one with another one, whose number OLD has otherwise than in a one with this. */
    private static void streamOnes() {
        String one = "one o { int a @ 7; int b @ 6; }";
        judge(STREAM, one, one, A, 0);
        judge(STREAM, "maybe int a @ 7;", one, A, 0);
        judge(STREAM, "maybe int a @ 7; maybe int b @ 6;", one, L, 6);
        judge(STREAM, "one o { int a @ 7; } one p { int b @ 6; }", one, L, 6);
        judge(STREAM, "one o { int a @ 7; } maybe int b @ 6;", one, L, 6);
        judge(STREAM, "one o { int a @ 7; } many int b @ 6;", one, L, 6);
        judge(STREAM, "one o { int a @ 7; int c @ 5; }", one, A, 0);
        judge(STREAM, "one o { int a @ 7; text b @ 6; }", one, L, 6);
        judge(STREAM, one, "one o { int a @ 7; } one p { int b @ 6; }", A, 0);
        judge(STREAM, one, "maybe int a @ 7; maybe int b @ 6;", A, 0);
        judge(STREAM, one, "one o { int a @ 7; long b @ 6; int c @ 5; }", W, 6);
        judge(STREAM, "one o { int a @ 7; int b @ 6; } maybe int c @ 5;", "one o { int a @ 7; int b @ 6; int c @ 5; }", L, 5);
        // what NEW has beside the one does not count
        judge(STREAM, "maybe int a @ 7; int b @ 6;", "one o { int a @ 7; } int b @ 6;", A, 0);
        judge(STREAM, "maybe int a @ 7; maybe int b @ 6; int c @ 5;", "one o { int a @ 7; } one p { int b @ 6; } int c @ 5;", A, 0);
        judge(STREAM, "one o { int a @ 7; int b @ 6; } int c @ 5;", "one o { int a @ 7; int b @ 6; } int c @ 5;", A, 0);
        judge(STREAM, "N a @ 7; maybe int b @ 6;", "one o { N a @ 7; int b @ 6; }", L, 6);
        judge(STREAM, "N a @ 7;", "one o { N a @ 7; int b @ 6; }", A, 0);
        // MANY of OLD as one that is in a one
        judge(STREAM, "many text a @ 7; maybe text b @ 8;", "one o { text a @ 7; text b @ 8; }", L, 7);
    }

    private static void linearOrder() {
        judge(LINEAR, "int a @ 1; text b @ 2;", "int c @ 2000; text d @ 5;", A, 0);
        judge(LINEAR, "int a @ 1; text b @ 2;", "text b @ 2; int a @ 1;", B, 1);
        judge(LINEAR, "text b @ 2; int a @ 1;", "int a @ 1; text b @ 2;", B, 1);
        judge(LINEAR, "int a @ 1; keep 5; text b @ 2;", "keep 7; int c @ 9; text d @ 8; keep 1;", A, 0);
        judge(LINEAR, "int a @ 1; int b @ 2;", "int a @ 1;", B, 0);
        judge(LINEAR, "int a @ 1;", "int a @ 1; int b @ 2;", B, 0);
        judge(LINEAR, "int a @ 1;", "one o { int b @ 2; int c @ 3; }", B, 1);
        judge(LINEAR, "int a @ 1; int b @ 2;", "one o { int a @ 1; int b @ 2; }", B, 0);
        judge(LINEAR, "one o { int a @ 5; int b @ 2; }", "int a @ 5;", B, 2);
        judge(LINEAR, "int x @ 3; one o { int a @ 5; int b @ 4; }", "int x @ 3; int a @ 5;", B, 4);
        judge(LINEAR, "int a @ 5 = 3;", "int a @ 5 = 4;", A, 0);
        judge(LINEAR, "text a @ 5 = \"x\";", "text a @ 5;", A, 0);
    }

    private static void linear(String old, String fresh, int due) {
        judge(LINEAR, old + " a @ 7;", fresh + " b @ 9;", due, due == A ? 0 : 7);
    }

    private static void linearSorts() {
        String[] sorts = {"int", "maybe int", "many int", "map<int, int>"};
        for (int old = 0; old < 4; old++) {
            for (int fresh = 0; fresh < 4; fresh++) {
                linear(sorts[old], sorts[fresh], old == fresh ? A : B);
            }
        }
        // records are MAYBE
        linear("N", "maybe N", A);
        linear("maybe N", "N", A);
        linear("N", "many N", B);
        linear("many N", "N", B);
        linear("N", "maybe int", B);
        linear("maybe text", "N", B);
        linear("many N", "many M", B);
        linear("map<int, N>", "map<int, M>", B);
    }

    private static void linearEnums() {
        for (String sort : new String[] {"", "maybe ", "many ", "map<int, "}) {
            String end = sort.startsWith("map") ? ">" : "";
            linear(sort + "E" + end, sort + "G" + end, A);
            linear(sort + "G" + end, sort + "E" + end, B);
            linear(sort + "E" + end, sort + "F" + end, B);
            linear(sort + "F" + end, sort + "H" + end, A);
            linear(sort + "E" + end, sort + "zint" + end, W);
            linear(sort + "int" + end, sort + "E" + end, B);
        }
        // not in the other formats
        stream("maybe E", "maybe F", A);
        judge(SLOTTED, "maybe E a @ 7;", "maybe F a @ 7;", A, 0);
    }

    private static void linearOnes() {
        judge(LINEAR, "one o { int a @ 7; text b @ 6; }", "one p { text x @ 6; bool y @ 1; int z @ 7; }", A, 0);
        judge(LINEAR, "one o { int a @ 7; text b @ 6; }", "one p { text x @ 6; }", B, 6);
        judge(LINEAR, "one o { int a @ 7; text b @ 6; }", "one p { int x @ 7; }", B, 6);
        judge(LINEAR, "one o { int a @ 7; text b @ 6; }", "one p { zint x @ 7; text y @ 6; }", W, 6);
        judge(LINEAR, "one o { int a @ 7; text b @ 6; }", "one p { uint x @ 7; bytes y @ 6; }", L, 6);
        judge(LINEAR, "one o { E a @ 7; }", "one p { F x @ 7; }", B, 7);
        judge(LINEAR, "one o { E a @ 7; }", "one p { G x @ 7; }", A, 0);
        judge(LINEAR, "one o { N a @ 7; }", "one p { M x @ 7; }", B, 7);
        judge(LINEAR, "one o { N a @ 7; }", "one p { N x @ 7; }", A, 0);
        judge(LINEAR, "one o { int a @ 7; }", "one p { int x @ 8; }", B, 7);
        // not elsewhere in NEW
        judge(LINEAR, "one o { int a @ 7; int b @ 6; } int c @ 5;", "one p { int x @ 7; } int y @ 6;", B, 6);
        judge(LINEAR, "one o { int a @ 7; } one p { int b @ 6; }", "one o { int b @ 6; } one p { int a @ 7; }", B, 6);
        // what stands behind a one
        judge(LINEAR, "one o { int a @ 7; } int b @ 8;", "one o { int a @ 7; } text b @ 8;", B, 8);
        judge(LINEAR, "one o { int a @ 7; int c @ 1; } int b @ 8;", "one o { int a @ 7; int c @ 1; } zint b @ 8;", W, 8);
        judge(LINEAR, "int b @ 8; one o { int a @ 7; int c @ 1; }", "int b @ 8; one o { int a @ 7; int c @ 1; int d @ 2; }", A, 0);
    }

    private static void slottedPlaces() {
        judge(SLOTTED, "int a @ 5;", "int a @ 5; int b @ 6;", A, 0);
        judge(SLOTTED, "int a @ 5;", "int a @ 5; int b @ 4;", B, 5);
        judge(SLOTTED, "int a @ 5;", "int a @ 5; text b @ 4;", A, 0);
        judge(SLOTTED, "text a @ 5;", "text a @ 5; int b @ 4;", A, 0);
        judge(SLOTTED, "text a @ 5;", "text a @ 5; text b @ 4;", B, 5);
        judge(SLOTTED, "text a @ 5;", "text a @ 6;", B, 5);
        judge(SLOTTED, "int a @ 5; int b @ 6;", "int b @ 6;", B, 5);
        judge(SLOTTED, "long a @ 5; bool b @ 6;", "long a @ 5; bool c @ 4; bool b @ 6;", B, 5);
        judge(SLOTTED, "int a @ 5;", "maybe int a @ 5;", B, 5);
        judge(SLOTTED, "maybe int a @ 5;", "int a @ 5;", B, 5);
        judge(SLOTTED, "text a @ 5;", "maybe text a @ 5;", B, 5);
        judge(SLOTTED, "maybe text a @ 5;", "text a @ 5;", B, 5);
        judge(SLOTTED, "maybe N a @ 5;", "N a @ 5;", A, 0);
        judge(SLOTTED, "N a @ 5;", "maybe N a @ 5;", A, 0);
        // FLAGS elsewhere, though the place is the same
        judge(SLOTTED, "maybe int a @ 5;", "bool b @ 4; maybe int a @ 5;", B, 5);
        judge(SLOTTED, "maybe text a @ 5;", "bool b @ 4; maybe text a @ 5;", B, 5);
        judge(SLOTTED, "many int a @ 5;", "int a @ 5;", B, 5);
        judge(SLOTTED, "text a @ 5;", "many text a @ 5;", B, 5);
        judge(SLOTTED, "many text a @ 5;", "text a @ 5;", B, 5);
        judge(SLOTTED, "N a @ 5;", "many N a @ 5;", B, 5);
        judge(SLOTTED, "many N a @ 5;", "map<int, N> a @ 5;", B, 5);
        judge(SLOTTED, "map<int, N> a @ 5;", "N a @ 5;", B, 5);
    }

    private static void slottedDefaults() {
        judge(SLOTTED, "int a @ 5 = 3;", "int a @ 5 = 3;", A, 0);
        judge(SLOTTED, "int a @ 5 = 3;", "zint a @ 5 = 3;", W, 5);
        judge(SLOTTED, "int a @ 5 = 3;", "int a @ 5 = 4;", B, 5);
        judge(SLOTTED, "int a @ 5;", "int a @ 5 = 0;", A, 0);
        judge(SLOTTED, "text a @ 5;", "text a @ 5 = \"x\";", B, 5);
        judge(SLOTTED, "text a @ 5 = \"x\";", "text a @ 5 = \"x\";", A, 0);
        judge(SLOTTED, "bytes a @ 5 = \"x\";", "bytes a @ 5 = \"xx\";", B, 5);
        judge(SLOTTED, "E a @ 5;", "F a @ 5;", A, 0);
        judge(SLOTTED, "E a @ 5;", "H a @ 5;", B, 5);
        judge(SLOTTED, "E a @ 5;", "H a @ 5 = A;", A, 0);
        judge(SLOTTED, "maybe E a @ 5;", "maybe H a @ 5;", A, 0);
        judge(SLOTTED, "many E a @ 5;", "many H a @ 5;", A, 0);
        judge(SLOTTED, "one o { E a @ 5; }", "one o { H a @ 5; }", A, 0);
    }

    private static void slottedOnes() {
        String one = "one o { int a @ 5; text b @ 6; }";
        judge(SLOTTED, one, one, A, 0);
        judge(SLOTTED, one, "one o { int a @ 5; text b @ 6; N c @ 7; }", A, 0);
        judge(SLOTTED, one, "one o { int a @ 5; text b @ 6; N c @ 4; }", B, 5);
        judge(SLOTTED, one, "one o { int a @ 5; text c @ 7; text b @ 6; }", A, 0);
        judge(SLOTTED, "one o { int a @ 5; text b @ 7; }", "one o { int a @ 5; text b @ 7; text c @ 6; }", B, 7);
        judge(SLOTTED, "one o { int a @ 5; int b @ 6; }", "one o { int a @ 5; }", B, 5);
        judge(SLOTTED, "one o { int a @ 5; int b @ 6; }", "one o { int a @ 5; int c @ 7; }", B, 6);
        judge(SLOTTED, "one o { int a @ 5; int b @ 6; }", "one o { uint a @ 5; zint b @ 6; }", L, 5);
        judge(SLOTTED, "one o { int a @ 5; }", "int a @ 5;", B, 5);
        judge(SLOTTED, "int a @ 5;", "one o { int a @ 5; }", B, 5);
        judge(SLOTTED, "N a @ 5;", "one o { N a @ 5; }", B, 5);
        judge(SLOTTED, "one o { N a @ 5; }", "N a @ 5;", B, 5);
        // FLAG and TAG, and pointers, at the same places
        judge(SLOTTED, "one o { text a @ 5; }", "maybe text a @ 5;", B, 5);
        judge(SLOTTED, "maybe text a @ 5;", "one o { text a @ 5; }", B, 5);
        judge(SLOTTED, "one o { int a @ 5; }", "bool b @ 4; one o { int a @ 5; }", B, 5);
        // the TAG elsewhere, though the pointer is the same
        judge(SLOTTED, "one o { text a @ 5; }", "bool b @ 4; one o { text a @ 5; }", B, 5);
        // the pointer elsewhere, though the TAG is the same
        judge(SLOTTED, "one o { text a @ 5; }", "text b @ 4; one o { text a @ 5; }", B, 5);
        // its 64 bits elsewhere
        judge(SLOTTED, "one o { int a @ 5; }", "long b @ 4; one o { int a @ 5; }", B, 5);
        judge(SLOTTED, "one o { text a @ 5; }", "one o { text a @ 5; int b @ 6; }", A, 0);
    }

    private static void maps() {
        for (int format = 0; format < 3; format++) {
            String[] old = {"map<int, int>", "map<int, int>", "map<int, int>", "map<uint, fix>", "map<text, N>", "map<text, N>"};
            String[] fresh = {"map<int, int>", "map<uint, int>", "map<int, text>", "map<uint, text>", "map<text, N>", "map<text, X>"};
            int[] stream = {A, L, L, L, A, L};
            int[] others = {A, L, B, B, A, B};
            for (int i = 0; i < old.length; i++) {
                int due = format == STREAM ? stream[i] : others[i];
                judge(format, old[i] + " a @ 7;", fresh[i] + " a @ 7;", due, due == A ? 0 : 7);
            }
            for (String other : "int|maybe int|many int|text|bytes|N|many N|many text".split("\\|")) {
                judge(format, "map<int, int> a @ 7;", other + " a @ 7;", B, 7);
                judge(format, other + " a @ 7;", "map<int, int> a @ 7;", B, 7);
            }
        }
        stream("map<int, N>", "map<long, M>", W);
        stream("map<long, N>", "map<int, M>", L);
        stream("map<int, bytes>", "map<int, text>", B);
    }

    /** Records as these are judged: the number is that of the field that leads to them. */
    private static void records() {
        judge(STREAM, "N a @ 7;", "M a @ 7;", W, 7);
        judge(STREAM, "M a @ 7;", "N a @ 7;", L, 7);
        judge(STREAM, "N a @ 7;", "K a @ 7;", A, 0);
        judge(STREAM, "N a @ 7;", "X a @ 7;", L, 7);
        judge(LINEAR, "N a @ 7;", "K a @ 7;", B, 7);
        judge(LINEAR, "N a @ 7;", "M a @ 7;", B, 7);
        judge(SLOTTED, "N a @ 7;", "K a @ 7;", B, 7);
        judge(SLOTTED, "K a @ 7;", "N a @ 7;", A, 0);
        judge(SLOTTED, "map<int, K> a @ 7;", "map<int, N> a @ 7;", A, 0);
        judge(SLOTTED, "one o { K a @ 7; }", "one o { M a @ 7; }", A, 0);
        judge(SLOTTED, "many K a @ 7;", "many X a @ 7;", A, 0);
    }

    private static void ring(int format, String old, String fresh, int due, int where) {
        Check c = new Check();
        c.schema(0, old);
        c.schema(1, fresh);
        Check.due(old + " as " + fresh, c.house.judge(0, 0, 1, 0, format), due);
        Check.due("where", c.house.where(), where);
    }

    private static void rings() {
        String a = "record A { A a @ 1; int i @ 2; }";
        for (int format = 0; format < 3; format++) {
            ring(format, a, a, A, 0);
            ring(format, a.replace("A a", "many A a"), a.replace("A a", "many A a"), A, 0);
            ring(format, a.replace("A a", "map<int, A> a"), a.replace("A a", "map<int, A> a"), A, 0);
        }
        ring(STREAM, a, a.replace("int", "long"), W, 1);
        ring(STREAM, a, a.replace("int", "uint"), L, 1);
        ring(STREAM, a.replace("@ 1", "@ 3"), a.replace("@ 1", "@ 3").replace("int", "uint"), L, 2);
        ring(LINEAR, a, a.replace("int", "zint"), W, 1);
        ring(LINEAR, a, a.replace("int", "fix"), L, 1);
        ring(LINEAR, a, a.replace("int", "text"), B, 1);
        ring(SLOTTED, a, a.replace("int", "zint"), W, 1);
        ring(SLOTTED, a, a.replace("int i @ 2;", ""), B, 1);
        String two = "record A { B b @ 5; } record B { C c @ 4; } record C { A a @ 3; B b @ 2; int i @ 9; }";
        for (int format = 0; format < 3; format++) {
            ring(format, two, two, A, 0);
        }
        ring(STREAM, two, two.replace("int", "uint"), L, 5);
        ring(LINEAR, two, two.replace("int", "zint"), W, 5);
        // a ring in OLD alone
        ring(STREAM, "record A { A a @ 1; }", "record A { B a @ 1; } record B { B a @ 1; }", A, 0);
        ring(STREAM, "record A { A a @ 1; }", "record A { B a @ 1; } record B { text a @ 1; }", B, 1);
    }

    /** Whatever schemas they are of, and of one schema. */
    private static void ofAllSchemas() {
        for (int s = 0; s < 4; s++) {
            for (int t = 0; t < 4; t++) {
                Check c = new Check();
                c.schema(s, "record N { } record R { int a @ 7; int b @ 6; } record Q { uint a @ 7; long b @ 6; }");
                Check.due("of one schema", c.house.judge(s, 1, s, 2, 0), L);
                Check.due("where", c.house.where(), 7);
                Check.due("the other way", c.house.judge(s, 2, s, 1, 0), L);
                Check.due("where", c.house.where(), 6);
                if (s != t) {
                    c.schema(t, "enum E { A = 1; } record N { } record X { zint a @ 7; zint b @ 6; } record R { long a @ 7; int b @ 6; }");
                    Check.due("of two", c.house.judge(s, 1, t, 3, 0), W);
                    Check.due("where", c.house.where(), 7);
                    Check.due("the other way", c.house.judge(t, 3, s, 1, 0), L);
                    Check.due("where", c.house.where(), 7);
                    Check.due("LINEAR", c.house.judge(s, 1, t, 2, 1), W);
                    Check.due("where", c.house.where(), 6);
                    Check.due("SLOTTED", c.house.judge(t, 2, s, 1, 2), W);
                    Check.due("where", c.house.where(), 6);
                }
            }
        }
    }

    private static void refused() {
        Check c = new Check();
        c.schema(0, "enum E { A = 1; } record R { int a @ 7; }");
        c.schema(1, "record R { long a @ 7; }");
        WireHouse x = c.house;
        Check.due("before any", x.where(), 0);
        Check.due("WIDER", x.judge(0, 1, 1, 0, 0), W);
        Check.due("where", x.where(), 7);
        int[][] bad = {{-1, 1, 1, 0, 0}, {4, 1, 1, 0, 0}, {0, 1, -1, 0, 0}, {0, 1, 4, 0, 0}, {0, 1, 1, 0, -1}, {0, 1, 1, 0, 3},
            {0, -1, 1, 0, 0}, {0, 2, 1, 0, 0}, {0, 0, 1, 0, 0}, {0, 1, 1, -1, 0}, {0, 1, 1, 1, 0}, {2, -1, 1, 0, 0}, {0, 1, 2, -1, 0},
            {2, 5, 1, 1, 0}, {0, 2, 2, 5, 0}, {0, 0, 3, 5, 0}, {2, 0, 3, 0, 3}, {2, -1, 3, 0, 0}};
        for (int[] b : bad) {
            Check.due("BAD", x.judge(b[0], b[1], b[2], b[3], b[4]), Check.BAD);
        }
        int[][] no = {{2, 0, 1, 0, 0}, {2, 99, 1, 0, 1}, {0, 1, 3, 0, 2}, {0, 1, 3, 99, 0}, {2, 7, 3, 7, 0}};
        for (int[] n : no) {
            Check.due("NO", x.judge(n[0], n[1], n[2], n[3], n[4]), Check.NO);
        }
        Check.due("where as before", x.where(), 7);
        Check.due("ALIKE", x.judge(0, 1, 0, 1, 0), A);
        Check.due("where of ALIKE", x.where(), 0);
    }
}
