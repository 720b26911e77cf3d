/** Promise 9: drop, same, encode; the bytes of the three formats. */
public final class Promise09Encode {
    private static Check C = new Check();
    private static final String SCHEMA = "enum E { A = 1; B = -2; } record N { } record P { int x @ 1; } record R { bool b @ 1; int i @ 2 = 5; uint u @ 3; zint z @ 4; fix f @ 5; long j @ 6; ulong w @ 7; zlong y @ 8; fixlong g @ 9; text t @ 10 = \"d\"; bytes s @ 11; E e @ 12; }";

    public static void main(String[] args) {
        drops();
        sames();
        stream();
        linear();
        slotted();
        Check.end();
    }

    private static void drops() {
        C.schema(0, "record N { }");
        C.read(0, 11, "N {}");
        Check.due("drop", C.house.drop(11), 1);
        Check.due("it is gone", C.house.told(11, 0), Check.NO);
        Check.due("drop of none", C.house.drop(11), Check.NO);
        Check.due("drop of no such", C.house.drop(12), Check.BAD);
    }

    private static void same(String one, String two, int due) {
        C.read(0, 1, one);
        C.read(0, 2, two);
        Check.due("same " + one + " " + two, C.house.same(1, 2), due);
    }

    private static void sames() {
        C.schema(0, "record N { } record M { } record R { int i @ 1 = 5; maybe int m @ 2; many N l @ 3; map<int, R> k @ 4; R r @ 5; text t @ 6; }");
        same("R {}", "R {i: 5, t: \"\", l: [], k: <>}", 1);
        same("R {}", "R {m: 0}", 0);
        same("R {}", "R {r: {}}", 0);
        same("R {l: [{}]}", "R {l: [{}, {}]}", 0);
        same("R {k: <1: {}, 2: {i: 3}>}", "R {k: <2: {i: 3}, 1: {}>}", 1);
        same("R {k: <1: {}>}", "R {k: <2: {}>}", 0);
        same("R {t: \"a\"}", "R {t: \"b\"}", 0);
        same("M {}", "N {}", 0);
        C.schema(1, "record M { }");
        C.read(1, 2, "M {}");
        Check.due("of two schemas", C.house.same(1, 2), 0);
        C.load(0, "38 01 38 02");
        C.load(1, "38 02 38 01");
        C.house.decode(0, 2, 0, 0, 3);
        C.house.decode(0, 2, 0, 1, 4);
        Check.due("unknown fields in another order", C.house.same(3, 4), 0);
        C.house.decode(0, 2, 0, 0, 4);
        Check.due("the same unknown fields", C.house.same(3, 4), 1);
        Check.due("one is none", C.house.same(3, 9), Check.NO);
        Check.due("no such", C.house.same(-1, 3), Check.BAD);
    }

    private static void wire(int format, String text, String hex) {
        String due = hex.replace(" ", "");
        C.read(0, 0, text);
        Check.due("encode of " + text, C.house.encode(0, format, 3), due.length() / 2);
        C.bytes(text, 3, due);
        Check.due("decode of " + text, C.house.decode(0, C.house.told(0, 1), format, 3, 1), C.house.told(0, 2));
        Check.due("the same again", C.house.same(0, 1), 1);
    }

    private static void stream() {
        C = new Check();
        C.schema(0, SCHEMA);
        wire(0, "R {}", "");
        wire(0, "R {b: true, i: -1, u: 300, z: -1}", "0801 10ffffffffffffffffff01 18ac02 2001");
        wire(0, "R {f: 258, j: -2, w: 128, y: 1, g: 1}", "2d02010000 30feffffffffffffffff01 388001 4002 490100000000000000");
        wire(0, "R {t: \"\", s: \"\\xff\", e: B}", "5200 5a01ff 60feffffffffffffffff01");
        C.schema(0, "enum E { A = 1; B = -2; } record N { maybe int x @ 1; } record R { many int l @ 3; many text t @ 2; many N n @ 1; map<int, N> m @ 200; map<text, E> k @ 4; one o { int p @ 5; N q @ 6; } N r @ 7; many fix f @ 8; }");
        wire(0, "R {l: [1, -1], t: [\"\", \"a\"], n: [{}, {x: 0}]}", "0a00 0a020800 1200 120161 1a0b01ffffffffffffffffff01");
        wire(0, "R {m: <0: {}, -1: {x: 1}>, k: <\"\": A>}", "2204 0a00 1001 c20c0f 08ffffffffffffffffff01 1202 0801 c20c04 0800 1200");
        wire(0, "R {p: 0, r: {}}", "2800 3a00");
        wire(0, "R {q: {x: 300}, f: [1, 2]}", "3203 08ac02 4208 01000000 02000000");
        // unknown fields go behind the others, as they came
        C.load(0, "f80101 fa01020102 1a0105");
        Check.due("decode", C.house.decode(0, 2, 0, 0, 0), 4);
        C.house.encode(0, 0, 1);
        C.bytes("unknown fields", 1, "1a0105f80101fa01020102");
        Check.due("no such message", C.house.encode(12, 0, 0), Check.BAD);
        Check.due("no such format", C.house.encode(0, 3, 0), Check.BAD);
        Check.due("no such row", C.house.encode(0, 0, -1), Check.BAD);
        Check.due("none there", C.house.encode(9, 0, 0), Check.NO);
    }

    private static void linear() {
        C = new Check();
        C.schema(0, SCHEMA);
        wire(1, "R {i: -1, z: -2, f: 1, w: 1, t: \"abcde\", s: \"\\x01\", e: B}",
            "00000000 ffffffff 00000000 fffffffe 00000001 0000000000000000 0000000000000001 0000000000000000 0000000000000000 00000005 6162636465000000 00000001 01000000 fffffffe");
        wire(1, "N {}", "");
        C.schema(0, "enum E { A = 1; } record N { } record R { maybe int x @ 5; one o { int p @ 9; text q @ 3; N n @ 4; } R r @ 1; many R l @ 2; map<text, long> m @ 6; many bool k @ 7; bool d @ 8 = true; }");
        wire(1, "R {}", "00000000 00000000 00000000 00000000 00000000 00000000 00000001");
        wire(1, "R {x: 0, q: \"a\", m: <\"b\": 1, \"\": 2>, k: [true], d: false}",
            "00000001 00000000 00000003 00000001 61000000 00000000 00000000 00000002 00000000 0000000000000002 00000001 62000000 0000000000000001 00000001 00000001 00000000");
        wire(1, "R {n: {}, r: {}, l: [{p: 1}]}",
            "00000000 00000004 00000001"
            + "00000000 00000000 00000000 00000000 00000000 00000000 00000001"
            + "00000001 00000000 00000009 00000001 00000000 00000000 00000000 00000000 00000001"
            + "00000000 00000000 00000001");
        C.schema(0, "enum E { A = 1; } record R { maybe E e @ 1; many E l @ 2; map<int, E> m @ 3; one o { E p @ 4; } R r @ 5; }");
        String[] strange = {"e: 2", "l: [A, 2]", "m: <1: 2>", "p: 2", "r: {e: 3}"};
        for (String s : strange) {
            C.read(0, 0, "R {" + s + "}");
            Check.due("no constant has it: " + s, C.house.encode(0, 1, 0), Check.NO);
            Check.due("other formats have it: " + s, C.house.encode(0, 0, 0) > 0 && C.house.encode(0, 2, 0) > 0 ? 1 : 0, 1);
        }
        C.schema(0, "enum E { A = 1; } record R { E e @ 1 = 9; }");
        C.read(0, 0, "R {}");
        Check.due("a DEFAULT that no constant has", C.house.encode(0, 1, 0), Check.NO);
        C = new Check();
        C.schema(0, "record R { many long l @ 1; }");
        C.read(0, 0, "R {l: [0" + Check.times(",0", 398) + "]}");
        Check.due("much", C.house.encode(0, 1, 0), 4 + 399 * 8);
        C.schema(0, "record Q { long a @ 1; long b @ 2; } record R { many Q l @ 1; }");
        C.read(0, 0, "R {l: [{}" + Check.times(",{}", 248) + "]}");
        Check.due("3988 bytes", C.house.encode(0, 1, 0), 4 + 249 * 16);
        C.put(0, "l[249] = {}");
        Check.due("4004 bytes", C.house.encode(0, 1, 0), Check.FULL);
        Check.due("the row stays", C.house.size(0), 3988);
        C.schema(0, "record Q { long a @ 1; long b @ 2; } record R { many Q l @ 1; int a @ 2; int b @ 3; int c @ 4; }");
        C.read(0, 0, "R {l: [{}" + Check.times(",{}", 248) + "]}");
        Check.due("4000 bytes", C.house.encode(0, 1, 0), 4000);
    }

    private static void slotted() {
        C = new Check();
        C.schema(0, "enum E { A = 1; } record N { } record P { int x @ 1; text t @ 2 = \"d\"; } record R { bool b @ 1 = true; int i @ 2 = 5; E e @ 3; maybe long j @ 4; P p @ 5; many bool l @ 6; many P q @ 7; map<int, text> m @ 8; one o { zint a @ 9; bytes c @ 10; N n @ 11; } many text k @ 12; }");
        wire(2, "N {}", Check.word(0xfffffffcL) );
        // R: b 0, i 32, e 16, j FLAG 1, j 64, TAG 128, its 64 at 192: D 4; p l q m o k: P 6
        String root = Check.word(4L << 32 | 6L << 48);
        String none = Check.word(0);
        wire(2, "R {}", root + Check.times(none, 10));
        wire(2, "R {b: false, i: 4, e: 3, j: 0, a: -1}", root + Check.word(1 | 2 | (3 ^ 1) << 16 | 1L << 32) + none
            + Check.word(1) + Check.word(-1) + Check.times(none, 6));
        // p leads to D 1, P 1 right behind; its text to two bytes and the 0; the bits follow
        wire(2, "R {p: {x: 2, t: \"ab\"}, l: [true, false, true]}", root + Check.times(none, 4)
            + Check.word(5L << 2 | 1L << 32 | 1L << 48) + Check.word(1 | 7L << 2 | 1L << 32 | 3L << 35)
            + Check.times(none, 4) + Check.word(2) + Check.word(1 | 0L << 2 | 2L << 32 | 3L << 35)
            + "6162000000000000" + Check.word(5));
        // an empty text that is not the DEFAULT is a list of its 0 byte
        wire(2, "P {t: \"\"}", Check.word(1L << 32 | 1L << 48) + none + Check.word(1 | 2L << 32 | 1L << 35) + none);
        // a list of records: all of them, then what they lead to
        wire(2, "R {q: [{x: 1}, {t: \"c\"}]}", root + Check.times(none, 6)
            + Check.word(1 | 3L << 2 | 7L << 32 | 4L << 35) + Check.times(none, 3)
            + Check.word(2L << 2 | 1L << 32 | 1L << 48) + Check.word(1) + none + none
            + Check.word(1 | 2L << 32 | 2L << 35) + "6300000000000000");
        // a MAP's records: D 1 for the key, P 1 for the item, which is 0 without bytes
        wire(2, "R {m: <7: \"z\", -1: \"\">}", root + Check.times(none, 7)
            + Check.word(1 | 2L << 2 | 7L << 32 | 4L << 35) + none + none
            + Check.word(2L << 2 | 1L << 32 | 1L << 48) + Check.word(0xffffffffL) + none + Check.word(7)
            + Check.word(1 | 0L << 2 | 2L << 32 | 2L << 35) + "7a00000000000000");
        // in a one: bytes without items are a list of none, a record without words lies at -1
        wire(2, "R {c: \"\"}", root + none + none + Check.word(2) + none + Check.times(none, 4)
            + Check.word(1 | 1L << 2 | 2L << 32) + none);
        wire(2, "R {n: {}}", root + none + none + Check.word(3) + none + Check.times(none, 4)
            + Check.word(0xfffffffcL) + none);
        wire(2, "R {k: [\"\", \"a\"]}", root + Check.times(none, 9) + Check.word(1 | 6L << 32 | 2L << 35)
            + none + Check.word(1 | 2L << 32 | 2L << 35) + "6100000000000000");
        C.schema(0, "record R { many bool l @ 1; many ulong u @ 2; map<ulong, bool> m @ 3; }");
        String three = Check.word(3L << 48);
        wire(2, "R {l: [true" + Check.times(",true", 63) + "]}", three + Check.word(1 | 2L << 2 | 1L << 32 | 64L << 35)
            + none + none + Check.word(-1));
        wire(2, "R {l: [true" + Check.times(",true", 64) + "]}", three + Check.word(1 | 2L << 2 | 1L << 32 | 65L << 35)
            + none + none + Check.word(-1) + Check.word(1));
        wire(2, "R {m: <1: true, 2: false>}", three + none + none + Check.word(1 | 7L << 32 | 4L << 35)
            + Check.word(2L << 2 | 2L << 32) + Check.word(1) + Check.word(1) + Check.word(2) + none);
        C.schema(0, "record Q { long a @ 1; long b @ 2; } record R { many Q l @ 1; }");
        C.read(0, 0, "R {l: [{}" + Check.times(",{}", 247) + "]}");
        Check.due("499 words", C.house.encode(0, 2, 0), (3 + 248 * 2) * 8);
        C.put(0, "l[248] = {}");
        Check.due("501 words", C.house.encode(0, 2, 0), Check.FULL);
    }
}
