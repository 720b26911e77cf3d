/** Promise 8: print, told, copy. */
public final class Promise08Print {
    private static final Check C = new Check();

    private static void prints(String text, String due) {
        C.read(0, 0, text);
        C.printed(text, 0, due);
    }

    public static void main(String[] args) {
        WireHouse x = C.house;
        C.schema(0, "enum E { A = 1; B = -2; } record R { bool b @ 9 = true; int i @ 2; ulong w @ 5; E e @ 6; text t @ 7; bytes y @ 8; maybe R r @ 1; many bool l @ 11; map<ulong, E> m @ 13; map<text, int> k @ 14; one o { zint p @ 15; R q @ 3; } long j @ 16; }");
        prints("R { }", "R{}");
        prints("R {b: false, i: -7, r: {}, e: B}", "R{r:{},i:-7,e:B,b:false}");
        prints("R {e: 9, j: -9223372036854775807, w: 9223372036854775807}", "R{w:9223372036854775807,e:9,j:-9223372036854775807}");
        prints("R {t: \"a\\\"\\\\\\x7f\\x00~ \", y: \"\\xff\\x1f\\x20\"}", "R{t:\"a\\\"\\\\\\x7f\\x00~ \",y:\"\\xff\\x1f \"}");
        prints("R {l: [true, false], m: <3: A, 0: 5>}", "R{l:[true,false],m:<0:5,3:A>}");
        prints("R {k: <\"b\": 1, \"a\\xc3\\xa9\": 2, \"\": 3, \"ab\": 4, \"a\": 5>}", "R{k:<\"\":3,\"a\":5,\"ab\":4,\"a\\xc3\\xa9\":2,\"b\":1>}");
        prints("R {p: 0, r: {q: {r: {i: 1}}}}", "R{r:{q:{r:{i:1}}},p:0}");

        // what no text tells: the highest ulong, the lowest long
        C.load(0, "28 ffffffffffffffffff01 8001 80808080808080808001 6a 0d 08 ffffffffffffffffff01 10 01");
        Check.due("decode", x.decode(0, 1, 0, 0, 1), 5);
        C.printed("the highest", 1, "R{w:18446744073709551615,m:<18446744073709551615:A>,j:-9223372036854775808}");

        Check.due("told: schema", x.told(1, 0), 0);
        Check.due("record", x.told(1, 1), 1);
        Check.due("VALUES", x.told(1, 2), 5);
        Check.due("BYTES", x.told(1, 3), 0);
        Check.due("depth", x.told(1, 4), 1);
        Check.due("unknown fields", x.told(1, 5), 0);
        Check.due("depth", C.read(0, 0, "R {r: {q: {}}}"), 2);
        Check.due("depth", x.told(0, 4), 3);
        Check.due("another what", x.told(0, 6), Check.BAD);
        Check.due("no such message", x.told(12, 0), Check.BAD);
        Check.due("none there", x.told(5, 0), Check.NO);

        // two unknown fields, one within a record, and one of another WIRE than that of b
        C.load(0, "a00605 1a05 9206020102 4d01020304");
        Check.due("unknown fields are VALUES", x.decode(0, 1, 0, 0, 2), 4);
        Check.due("BYTES of unknown fields", x.told(2, 3), 1 + 3 + 4);
        Check.due("unknown fields", x.told(2, 5), 3);
        C.printed("are left out", 2, "R{q:{}}");

        Check.due("copy", x.copy(2, 3), 1);
        Check.due("the same", x.same(2, 3), 1);
        C.put(2, "i = 1");
        Check.due("apart from then on", x.same(2, 3), 0);
        Check.due("copy to itself", x.copy(2, 2), 1);
        Check.due("copy of none", x.copy(5, 2), Check.NO);
        Check.due("to no such", x.copy(5, 12), Check.BAD);
        C.printed("it stays", 2, "R{i:1,q:{}}");

        Check.due("print of none", x.print(5, 0), Check.NO);
        Check.due("print to no row", x.print(5, 8), Check.BAD);
        String longNumber = "-9223372036854775807";
        C.schema(1, "record abcdefghij_longs { many long abcdefghij_names @ 1; }");
        C.read(1, 0, "abcdefghij_longs {abcdefghij_names: [" + longNumber + Check.times("," + longNumber, 185) + "]}");
        Check.due("print of much", x.print(0, 0), 16 + 1 + 16 + 1 + 1 + 186 * 21 - 1 + 2);
        C.put(0, "abcdefghij_names[186] = " + longNumber);
        C.put(0, "abcdefghij_names[187] = " + longNumber);
        C.load(0, "aa");
        Check.due("print of 3984 bytes", x.print(0, 0), 3984);
        C.put(0, "abcdefghij_names[188] = " + longNumber);
        C.load(0, "aa");
        Check.due("print of more than 4000", x.print(0, 0), Check.FULL);
        C.bytes("the row stays", 0, "aa");
        Check.end();
    }
}
