/** Promise 12: differ, path, judge. */
public final class Promise12Judge {
    private static Check C = new Check();
    private static final int ALIKE = 0, WIDER = 1, LOSES = 2, BREAKS = 3;
    private static final int STREAM = 0, LINEAR = 1, SLOTTED = 2;

    public static void main(String[] args) {
        differences();
        arguments();
        stream();
        linear();
        slotted();
        rings();
        Check.end();
    }

    private static void differ(String one, String two, String due) {
        C.read(0, 0, one);
        C.read(0, 1, two);
        int n = C.house.differ(0, 1);
        StringBuilder paths = new StringBuilder();
        for (int k = 0; k < n; k++) {
            int size = C.house.path(k, 3);
            paths.append(k == 0 ? "" : " ").append(C.text(3));
            Check.due("size of a path", size, C.house.size(3));
        }
        Check.due("differ " + one + " " + two, paths.toString(), due);
        Check.due("no path more", C.house.path(n, 3), Check.BAD);
    }

    private static void differences() {
        C.schema(0, "record N { } record R { text t @ 9; int i @ 2 = 5; R r @ 1; maybe R mr @ 12; many R l @ 3; map<int, R> m @ 4; one o { int p @ 6; R q @ 5; } maybe int mi @ 11; }");
        differ("R {}", "R {i: 5, l: []}", "");
        differ("R {t: \"x\", i: 6}", "R {}", "i t");
        differ("R {r: {i: 1, r: {}}, mr: {t: \"\"}}", "R {r: {i: 2}, mr: {i: 0}}", "r.r r.i mr.i");
        differ("R {r: {}}", "R {}", "r");
        differ("R {mi: 0}", "R {mi: 1}", "mi");
        differ("R {mi: 0}", "R {}", "mi");
        differ("R {p: 0}", "R {q: {}}", "q p");
        differ("R {l: [{i: 1}]}", "R {l: [{i: 2}]}", "l");
        differ("R {l: [{}]}", "R {l: [{}, {}]}", "l");
        differ("R {m: <1: {i: 1}>}", "R {m: <1: {i: 1}>}", "");
        differ("R {m: <1: {i: 1}>}", "R {m: <2: {i: 1}>}", "m");
        String deep = "R {" + Check.times("r: {", 11) + "i: 1" + Check.times("}", 12);
        differ(deep, deep.replace("1", "2"), Check.times("r.", 11) + "i");
        C.load(0, "7801 1a02 7802");
        C.house.decode(0, 1, 0, 0, 0);
        C.read(0, 1, "R {l: [{}]}");
        Check.due("unknown fields do not count", C.house.differ(0, 1), 0);
        Check.due("but they are not the same", C.house.same(0, 1), 0);
        Check.due("the other way", C.house.differ(1, 0), 0);
        C.load(0, "1a02 7803");
        C.house.decode(0, 1, 0, 0, 1);
        Check.due("other unknown fields", C.house.differ(0, 1), 0);
        C.read(0, 2, "N {}");
        differ("R {i: 1}", "R {i: 2}", "i");
        Check.due("of another record", C.house.differ(0, 2), Check.NO);
        Check.due("one is none", C.house.differ(0, 9), Check.NO);
        Check.due("no such", C.house.differ(0, 12), Check.BAD);
        Check.due("the latest that told a number", C.house.path(0, 3), 1);
        Check.due("no row", C.house.path(0, 8), Check.BAD);
        Check.due("below 0", C.house.path(-1, 3), Check.BAD);
    }

    private static void arguments() {
        C.schema(0, "enum E { A = 1; } record R { }");
        C.schema(1, "record R { }");
        Check.due("judge", C.house.judge(0, 1, 1, 0, 0), ALIKE);
        Check.due("no format", C.house.judge(0, 1, 1, 0, 3), Check.BAD);
        Check.due("an enum", C.house.judge(0, 0, 1, 0, 0), Check.BAD);
        Check.due("no type", C.house.judge(0, 1, 1, 1, 0), Check.BAD);
        Check.due("no type, and no other schema", C.house.judge(3, 7, 1, 1, 0), Check.BAD);
        Check.due("below 0 of no schema", C.house.judge(3, -1, 1, 0, 0), Check.BAD);
        Check.due("none there", C.house.judge(3, 7, 1, 0, 0), Check.NO);
        Check.due("no such schema", C.house.judge(4, 0, 1, 0, 0), Check.BAD);
    }

    /** Judges record R of two schemas told by the parts of R alone. */
    private static void judge(int format, String old, String fresh, int due, int where) {
        String rest = " record N { int n @ 1; } record M { long n @ 1; } record X { text n @ 1; } enum E { A = 1; B = 2; } enum F { A = 1; C = 3; } enum G { A = 1; B = 2; C = 3; }";
        String what = format + ": " + old + " as " + fresh;
        C = new Check();
        Check.due("schema", C.schema(0, "record R {" + old + "}" + rest), 7);
        Check.due("schema", C.schema(1, "record R {" + fresh + "}" + rest), 7);
        Check.due(what, C.house.judge(0, 0, 1, 0, format), due);
        Check.due("where " + what, C.house.where(), where);
    }

    private static void kind(int format, String old, String fresh, int due) {
        judge(format, old + " a @ 7;", fresh + " a @ 7;", due, due == ALIKE ? 0 : 7);
    }

    private static void stream() {
        judge(STREAM, "int a @ 1; text b @ 2;", "text b @ 2; long c @ 3;", ALIKE, 0);
        judge(STREAM, "int a @ 4; int b @ 3; int c @ 2;", "long a @ 4; uint b @ 3; uint c @ 2;", LOSES, 2);
        kind(STREAM, "int", "int", ALIKE);
        kind(STREAM, "int", "long", WIDER);
        kind(STREAM, "long", "int", LOSES);
        kind(STREAM, "int", "uint", LOSES);
        kind(STREAM, "uint", "long", WIDER);
        kind(STREAM, "bool", "ulong", WIDER);
        judge(STREAM, "E a @ 7;", "int a @ 7 = 1;", WIDER, 7);
        judge(STREAM, "E a @ 7;", "int a @ 7;", LOSES, 7);
        kind(STREAM, "E", "F", ALIKE);
        kind(STREAM, "zint", "zlong", WIDER);
        kind(STREAM, "zint", "long", LOSES);
        kind(STREAM, "int", "zint", LOSES);
        kind(STREAM, "fix", "uint", LOSES);
        kind(STREAM, "fix", "fixlong", LOSES);
        kind(STREAM, "text", "bytes", WIDER);
        kind(STREAM, "bytes", "text", BREAKS);
        kind(STREAM, "text", "N", BREAKS);
        kind(STREAM, "N", "bytes", BREAKS);
        kind(STREAM, "text", "int", LOSES);
        kind(STREAM, "N", "M", WIDER);
        kind(STREAM, "M", "N", LOSES);
        kind(STREAM, "N", "X", LOSES);
        kind(STREAM, "map<int, text>", "map<long, bytes>", WIDER);
        kind(STREAM, "map<int, text>", "map<uint, text>", LOSES);
        kind(STREAM, "map<int, bytes>", "map<long, text>", BREAKS);
        kind(STREAM, "map<int, text>", "many N", BREAKS);
        kind(STREAM, "text", "map<int, text>", BREAKS);
        kind(STREAM, "many int", "many long", WIDER);
        kind(STREAM, "many int", "many fix", BREAKS);
        kind(STREAM, "many int", "many text", BREAKS);
        kind(STREAM, "many text", "many bytes", WIDER);
        kind(STREAM, "many int", "int", LOSES);
        kind(STREAM, "many int", "fix", LOSES);
        kind(STREAM, "many int", "text", BREAKS);
        kind(STREAM, "many text", "text", LOSES);
        kind(STREAM, "many bytes", "text", BREAKS);
        kind(STREAM, "many text", "int", LOSES);
        kind(STREAM, "int", "many int", WIDER);
        kind(STREAM, "int", "many fix", LOSES);
        kind(STREAM, "text", "many int", BREAKS);
        kind(STREAM, "int", "many text", LOSES);
        kind(STREAM, "N", "many N", WIDER);
        kind(STREAM, "int", "maybe int", LOSES);
        kind(STREAM, "maybe int", "maybe int", ALIKE);
        kind(STREAM, "N", "maybe N", ALIKE);
        judge(STREAM, "int a @ 7 = 3;", "int a @ 7;", LOSES, 7);
        judge(STREAM, "int a @ 7 = 3;", "long a @ 7 = 3;", WIDER, 7);
        judge(STREAM, "text a @ 7 = \"x\";", "text a @ 7 = \"\\x78\";", ALIKE, 0);
        judge(STREAM, "int a @ 7;", "one o { int a @ 7; }", LOSES, 7);
        judge(STREAM, "maybe int a @ 7;", "one o { int a @ 7; }", ALIKE, 0);
        judge(STREAM, "maybe int a @ 7; maybe int b @ 6;", "one o { int a @ 7; int b @ 6; }", LOSES, 6);
        judge(STREAM, "one o { int a @ 7; } one p { int b @ 6; }", "one o { int a @ 7; int b @ 6; }", LOSES, 6);
        judge(STREAM, "one o { int a @ 7; int b @ 6; int c @ 5; }", "one o { int a @ 7; int b @ 6; int d @ 8; }", ALIKE, 0);
        judge(STREAM, "one o { int a @ 7; int b @ 6; }", "one o { int a @ 7; } one p { int b @ 6; }", ALIKE, 0);
    }

    private static void linear() {
        judge(LINEAR, "int a @ 1;", "int a @ 1; int b @ 2;", BREAKS, 0);
        judge(LINEAR, "int a @ 4; text b @ 3; keep 9;", "long c @ 9; text d @ 8;", BREAKS, 4);
        judge(LINEAR, "int a @ 4; text b @ 3;", "int c @ 9; bytes d @ 8;", WIDER, 3);
        judge(LINEAR, "uint a @ 4; uint b @ 3;", "int c @ 9; int d @ 8;", LOSES, 3);
        judge(LINEAR, "int a @ 7 = 3;", "int a @ 7;", ALIKE, 0);
        kind(LINEAR, "int", "zint", WIDER);
        kind(LINEAR, "bool", "int", WIDER);
        kind(LINEAR, "int", "bool", BREAKS);
        kind(LINEAR, "E", "uint", LOSES);
        kind(LINEAR, "E", "zint", WIDER);
        kind(LINEAR, "int", "E", BREAKS);
        kind(LINEAR, "E", "bool", BREAKS);
        kind(LINEAR, "E", "G", ALIKE);
        kind(LINEAR, "E", "F", BREAKS);
        kind(LINEAR, "long", "fixlong", LOSES);
        kind(LINEAR, "int", "long", BREAKS);
        kind(LINEAR, "text", "bytes", WIDER);
        kind(LINEAR, "bytes", "text", BREAKS);
        kind(LINEAR, "int", "maybe int", BREAKS);
        kind(LINEAR, "N", "maybe N", ALIKE);
        kind(LINEAR, "N", "maybe int", BREAKS);
        kind(LINEAR, "N", "M", BREAKS);
        kind(LINEAR, "many int", "int", BREAKS);
        kind(LINEAR, "many int", "many fix", LOSES);
        kind(LINEAR, "map<int, text>", "map<uint, bytes>", LOSES);
        kind(LINEAR, "map<int, E>", "map<zint, F>", BREAKS);
        judge(LINEAR, "one o { int a @ 7; text b @ 6; }", "one p { text c @ 6; int d @ 7; bool e @ 1; }", ALIKE, 0);
        judge(LINEAR, "one o { int a @ 7; text b @ 6; }", "one p { bytes c @ 6; int d @ 7; }", WIDER, 6);
        judge(LINEAR, "one o { int a @ 7; text b @ 6; }", "one p { int d @ 7; }", BREAKS, 6);
        judge(LINEAR, "one o { int a @ 7; }", "int d @ 7;", BREAKS, 7);
    }

    private static void slotted() {
        judge(SLOTTED, "int a @ 1; text b @ 2;", "int a @ 1; text b @ 2; long c @ 3;", ALIKE, 0);
        judge(SLOTTED, "int a @ 1; text b @ 2;", "int a @ 1;", BREAKS, 2);
        judge(SLOTTED, "int a @ 2;", "int a @ 2; int b @ 1;", BREAKS, 2);
        judge(SLOTTED, "int a @ 2;", "int a @ 2; bool b @ 1;", BREAKS, 2);
        judge(SLOTTED, "int a @ 2;", "int a @ 2; text b @ 1;", ALIKE, 0);
        judge(SLOTTED, "int a @ 7 = 3;", "int a @ 7;", BREAKS, 7);
        judge(SLOTTED, "text a @ 7;", "text a @ 7 = \"x\";", BREAKS, 7);
        kind(SLOTTED, "int", "zint", WIDER);
        kind(SLOTTED, "int", "fix", LOSES);
        kind(SLOTTED, "int", "long", BREAKS);
        kind(SLOTTED, "E", "F", ALIKE);
        kind(SLOTTED, "bool", "E", BREAKS);
        kind(SLOTTED, "text", "bytes", BREAKS);
        kind(SLOTTED, "maybe int", "int", BREAKS);
        kind(SLOTTED, "maybe text", "text", BREAKS);
        kind(SLOTTED, "maybe N", "N", ALIKE);
        kind(SLOTTED, "N", "M", BREAKS);
        kind(SLOTTED, "many int", "many text", BREAKS);
        kind(SLOTTED, "many int", "many uint", LOSES);
        kind(SLOTTED, "many N", "N", BREAKS);
        kind(SLOTTED, "N", "many N", BREAKS);
        kind(SLOTTED, "text", "many text", BREAKS);
        kind(SLOTTED, "N", "map<int, N>", BREAKS);
        kind(SLOTTED, "many text", "many text", ALIKE);
        kind(SLOTTED, "map<int, long>", "map<zint, ulong>", LOSES);
        kind(SLOTTED, "map<int, text>", "many N", BREAKS);
        judge(SLOTTED, "one o { int a @ 7; text b @ 6; }", "one o { int a @ 7; text b @ 6; N c @ 8; }", ALIKE, 0);
        judge(SLOTTED, "one o { int a @ 7; text b @ 6; }", "one o { int a @ 7; text b @ 6; N c @ 5; }", BREAKS, 6);
        judge(SLOTTED, "one o { int a @ 7; int b @ 6; }", "one o { uint a @ 7; zint b @ 6; }", LOSES, 7);
        judge(SLOTTED, "one o { int a @ 7; int b @ 6; }", "one o { long a @ 7; int b @ 6; }", BREAKS, 7);
        judge(SLOTTED, "one o { int a @ 1; int b @ 2; }", "one o { int a @ 1; }", BREAKS, 1);
        judge(SLOTTED, "one o { text a @ 1; }", "text a @ 1;", BREAKS, 1);
    }

    private static void rings() {
        C.schema(0, "record A { B b @ 1; int i @ 2; } record B { A a @ 1; many B l @ 3; map<int, A> m @ 4; }");
        C.schema(1, "record A { B b @ 1; int i @ 2; } record B { A a @ 1; many B l @ 3; map<int, A> m @ 4; }");
        for (int format = 0; format < 3; format++) {
            Check.due("a ring", C.house.judge(0, 0, 1, 0, format), ALIKE);
        }
        C.schema(1, "record A { B b @ 1; zint i @ 2; } record B { A a @ 1; many B l @ 3; map<int, A> m @ 4; }");
        Check.due("a ring with one wider", C.house.judge(0, 1, 1, 1, LINEAR), WIDER);
        Check.due("by the least", C.house.where(), 1);
        Check.due("itself", C.house.judge(0, 0, 1, 0, SLOTTED), WIDER);
        Check.due("by the least", C.house.where(), 1);
        Check.due("in a STREAM", C.house.judge(0, 0, 1, 0, STREAM), LOSES);
    }
}
