/**
 * Section 4 of the document: STREAM bytes at their edges, and each fault with its place.
 * A ^ in a row's digits stands where the fault is told; it is taken out.
 */
public final class Edges04Stream {
    private static final String SCHEMA = "enum E { A = 1; B = 7; C = -32768; D = 32767; } record N { }"
        + " record R { bool b @ 1; int i @ 2; uint u @ 3; zint z @ 4; fix f @ 5; long j @ 6; ulong w @ 7; zlong y @ 8; fixlong g @ 9; text t @ 10; bytes s @ 11; E e @ 12; R r @ 13; maybe int mi @ 14; maybe text mt @ 15; one o { int oi @ 20; text ot @ 21; R or @ 22; N on @ 23; } }"
        + " record L { many bool lb @ 1; many int li @ 2; many zint lz @ 3; many fix lf @ 4; many fixlong lg @ 5; many E le @ 6; many text lt @ 7; many bytes ls @ 8; many L ll @ 9; many R lr @ 10; map<int, L> ml @ 11; map<text, E> te @ 12; map<fix, bool> fb @ 13; map<long, text> lx @ 14; map<zint, R> zr @ 15; L l @ 16; }";
    private static final int R = 2, L = 3;
    private static Check c;

    public static void main(String[] args) {
        varints();
        keys();
        wires();
        lowestBits();
        written();
        writtenLists();
        readLists();
        otherWires();
        unknown();
        laterTakesThePlace();
        readOn();
        ones();
        entries();
        entriesAnew();
        entriesPassOver();
        endsTooSoon();
        endsWithin();
        wrongTexts();
        deep();
        deepEntries();
        large();
        largeBytes();
        mostWritten();
        refused();
        Check.end();
    }

    private static void begin() {
        c = new Check();
        c.schema(0, SCHEMA);
    }

    /** Long rows have a house of their own, which has 512 calls. */
    private static void load(String hex) {
        if (hex.length() > 400) {
            begin();
        }
        c.load(0, hex);
    }

    private static void good(int k, String hex, int values, String due) {
        load(hex);
        Check.due(hex, c.house.decode(0, k, 0, 0, 1), values);
        Check.due("place() of " + hex, c.house.place(), Check.NO);
        c.printed(hex, 1, due);
    }

    private static void bad(int k, String marked, int fault) {
        String digits = marked.replace(" ", "");
        load(digits);
        c.fault(marked, c.house.decode(0, k, 0, 0, 0), fault, digits.indexOf('^') / 2);
    }

    /** What is READ is WRITTEN so. */
    private static void again(int k, String hex, String due) {
        c.load(0, hex);
        Check.due(hex + " is READ", c.house.decode(0, k, 0, 0, 1) >= 0 ? 1 : 0, 1);
        c.house.encode(1, 0, 2);
        c.bytes(hex + " is WRITTEN", 2, due.replace(" ", ""));
    }

    private static void wire(String text, String hex) {
        String due = hex.replace(" ", "");
        c.read(0, 1, text);
        Check.due("encode of " + text, c.house.encode(1, 0, 2), due.length() / 2);
        c.bytes(text, 2, due);
        Check.due("READ again: " + text, c.house.decode(0, c.house.told(1, 1), 0, 2, 3), c.house.told(1, 2));
        Check.due("the same: " + text, c.house.same(1, 3), 1);
    }

    private static void varints() {
        begin();
        good(R, "38 8000", 0, "R{}");
        good(R, "38 80808080808080808000", 0, "R{}");
        good(R, "38 7f", 1, "R{w:127}");
        good(R, "38 8001", 1, "R{w:128}");
        good(R, "38 ff8000", 1, "R{w:127}");
        good(R, "38 ffffffffffffffff7f", 1, "R{w:9223372036854775807}");
        good(R, "38 80808080808080808001", 1, "R{w:9223372036854775808}");
        good(R, "38 ffffffffffffffffff01", 1, "R{w:18446744073709551615}");
        bad(R, "38 ^80808080808080808002", 2);
        bad(R, "38 ^ffffffffffffffffff02", 2);
        bad(R, "38 ^8080808080808080807f", 2);
        bad(R, "38 ^80808080808080808080", 2);
        bad(R, "38 ^8080808080808080808000", 2);
        bad(R, "38 ^8080808080808080808101", 2);
        bad(R, "38 808080808080808080^", 1);
        bad(R, "52 ^8080808080808080800261", 2);
        bad(R, "7006 38 ^80808080808080808002 00", 2);
        // of what is not a field, too
        bad(R, "f00c ^80808080808080808002", 2);
        bad(R, "f20c ^80808080808080808002", 2);
    }

    private static void keys() {
        begin();
        good(R, "8800 01", 1, "R{b:true}");
        good(R, "88808080808080808000 01", 1, "R{b:true}");
        again(R, "88808080808080808000 81808000", "0801");
        good(R, "f8ffffff0f 00", 1, "R{}");
        good(R, "fdffffff0f 00000000", 1, "R{}");
        bad(R, "^8080808010 00", 3);
        bad(R, "^8580808010 00000000", 3);
        bad(R, "^00 00", 3);
        bad(R, "^01 0000000000000000", 3);
        bad(R, "^02 00", 3);
        bad(R, "^05 00000000", 3);
        bad(R, "^8000 00", 3);
        bad(R, "^ffffffffffffffffff01", 3);
        bad(R, "^80808080808080808001 00", 3);
        // 2^61 and one more would be 1 in fewer bits
        bad(R, "^88808080808080808001 01", 3);
        bad(R, "0801 ^00", 3);
        // of one KEY 2, then 3, then 4
        bad(R, "^80808080808080808002", 2);
        bad(R, "^83808080808080808002", 2);
        for (String k : "03 04 06 07 8300 8380808010 8480808010 8680808010 8780808010".split(" ")) {
            bad(R, "^" + k, 3);
        }
        bad(R, "80808080^", 1);
        bad(R, "0801 88^", 1);
    }

    private static void wires() {
        begin();
        for (String k : "0b 0c 0e 0f fbffffff0f fcffffff0f feffffff0f ffffffff0f 8b00".split(" ")) {
            bad(R, "^" + k, 4);
            bad(R, "0801 ^" + k + "00000000", 4);
        }
        bad(R, "6a01 ^0b", 4);
        bad(R, "6a01 ^00", 3);
        bad(L, "5a01 ^0b", 4);
        bad(L, "5a01 ^07", 3);
        bad(L, "5a02 1201 ^", 1);
    }

    private static void lowestBits() {
        begin();
        good(R, "08 00", 0, "R{}");
        good(R, "08 02", 1, "R{b:true}");
        good(R, "08 8002", 1, "R{b:true}");
        good(R, "08 8080808010", 1, "R{b:true}");
        good(R, "08 80808080808080808001", 1, "R{b:true}");
        good(R, "10 8580808010", 1, "R{i:5}");
        good(R, "10 8080808008", 1, "R{i:-2147483648}");
        good(R, "10 ffffffff07", 1, "R{i:2147483647}");
        good(R, "10 ffffffff0f", 1, "R{i:-1}");
        good(R, "10 8080808010", 0, "R{}");
        good(R, "18 ffffffff0f", 1, "R{u:4294967295}");
        good(R, "18 8080808010", 0, "R{}");
        good(R, "18 ffffffffffffffffff01", 1, "R{u:4294967295}");
        good(R, "20 01", 1, "R{z:-1}");
        good(R, "20 feffffff0f", 1, "R{z:2147483647}");
        good(R, "20 ffffffff0f", 1, "R{z:-2147483648}");
        good(R, "20 8080808010", 0, "R{}");
        good(R, "20 8180808010", 1, "R{z:-1}");
        good(R, "40 feffffffffffffffff01", 1, "R{y:9223372036854775807}");
        good(R, "40 ffffffffffffffffff01", 1, "R{y:-9223372036854775808}");
        good(R, "40 8280808010", 1, "R{y:2147483649}");
        good(R, "30 ffffffffffffffffff01", 1, "R{j:-1}");
        good(R, "60 878004", 1, "R{e:B}");
        good(R, "60 ffff03", 1, "R{e:-1}");
        good(R, "60 808002", 1, "R{e:C}");
        good(R, "60 ffff01", 1, "R{e:D}");
        good(R, "60 808004", 1, "R{e:0}");
        good(R, "60 818004", 0, "R{}");
        good(R, "2d ffffffff", 1, "R{f:4294967295}");
        good(R, "49 0000000000000080", 1, "R{g:9223372036854775808}");
        good(R, "2d 01020304", 1, "R{f:67305985}");
        good(R, "70 8080808010", 1, "R{mi:0}");
        good(R, "a001 8080808010", 1, "R{oi:0}");
    }

    private static void written() {
        begin();
        wire("R{}", "");
        wire("R{b:true,i:-1,u:4294967295,z:-2147483648}", "0801 10ffffffffffffffffff01 18ffffffff0f 20ffffffff0f");
        wire("R{i:-2147483648,z:2147483647}", "1080808080f8ffffffff01 20feffffff0f");
        wire("R{i:2147483647,j:-9223372036854775807}", "10ffffffff07 3081808080808080808001");
        wire("R{w:9223372036854775807,y:-9223372036854775807}", "38ffffffffffffffff7f 40fdffffffffffffffff01");
        wire("R{z:-1,y:1}", "2001 4002");
        wire("R{z:1,y:-1}", "2002 4001");
        wire("R{f:4294967295,g:9223372036854775807}", "2dffffffff 49ffffffffffffff7f");
        wire("R{e:C}", "60 8080feffffffffffff01");
        wire("R{e:D}", "60 ffff01");
        wire("R{e:-1}", "60 ffffffffffffffffff01");
        wire("R{u:127}", "187f");
        wire("R{u:128}", "188001");
        wire("R{u:16383}", "18ff7f");
        wire("R{u:16384}", "18808001");
        wire("R{mi:0,mt:\"\",oi:0}", "7000 7a00 a00100");
        wire("R{ot:\"\",r:{}}", "6a00 aa0100");
        wire("R{on:{},t:\"\\xc3\\xa9\",s:\"\\xff\"}", "5202c3a9 5a01ff ba0100");
        wire("R{or:{or:{oi:0}}}", "b20106 b20103 a00100");
        wire("R{oi:1,mi:2,i:3}", "1003 7002 a00101");
        c.schema(0, "record R { int a @ 16; int b @ 15; int c @ 2000; one o { int d @ 1999; int e @ 1; } text f @ 17 = \"x\"; bool g @ 18 = true; }");
        wire("R{a:1,b:2,c:3,d:4}", "7802 800101 f87c04 807d03");
        wire("R{e:0,f:\"\",g:false,c:-0}", "0800 8a0100 900100");
        wire("R{f:\"x\",g:true}", "");
        wire("R{f:\"" + Check.times("y", 60) + "\"}", "8a013c" + Check.times("79", 60));
    }

    private static void writtenLists() {
        begin();
        wire("L{lb:[],li:[],lt:[],ll:[],ml:<>}", "");
        wire("L{lb:[false,true],li:[-1,0],lz:[-1,1]}", "0a020001 120bffffffffffffffffff0100 1a020102");
        wire("L{lf:[1,4294967295],lg:[1]}", "220801000000ffffffff 2a080100000000000000");
        wire("L{le:[A,B]}", "32020107");
        wire("L{lt:[\"\",\"a\",\"\"],ls:[\"\\x80\"]}", "3a00 3a0161 3a00 420180");
        wire("L{ll:[{},{li:[1]},{}],lr:[{}]}", "4a00 4a03120101 4a00 5200");
        wire("L{ml:<-1:{},0:{},1:{}>}", "5a0d08ffffffffffffffffff011200 5a0408001200 5a0408011200");
        wire("L{te:<\"\":A,\"a\":B>}", "62040a001001 62050a01611007");
        wire("L{fb:<0:false,4294967295:true>}", "6a070d000000001000 6a070dffffffff1001");
        wire("L{lx:<0:\"\">,zr:<-1:{}>}", "720408001200 7a0408011200");
        wire("L{l:{l:{}}}", "8201038201 00");
        wire("L{li:[0" + Check.times(",0", 126) + "]}", "127f" + Check.times("00", 127));
        wire("L{li:[0" + Check.times(",0", 127) + "]}", "128001" + Check.times("00", 128));
    }

    private static void readLists() {
        begin();
        good(L, "0a00 1200 2200 2a00", 0, "L{}");
        good(L, "0800 0801 0a020200 0803", 6, "L{lb:[false,true,true,false,true]}");
        good(L, "0a01 00", 2, "L{lb:[false]}");
        good(L, "12 0a ffffffffffffffffff01", 2, "L{li:[-1]}");
        good(L, "12 05 8580808010 1007", 3, "L{li:[5,7]}");
        good(L, "25 01000000 2208 02000000 03000000 25 04000000", 5, "L{lf:[1,2,3,4]}");
        good(L, "29 0100000000000000 2a08 0200000000000000", 3, "L{lg:[1,2]}");
        good(L, "32 03 808002", 2, "L{le:[C]}");
        good(L, "32 03 818004 3000", 3, "L{le:[A,0]}");
        good(L, "3a00 3a0161 3a00", 4, "L{lt:[\"\",\"a\",\"\"]}");
        // not whole numbers of four or eight bytes
        bad(L, "2203 010000^ 00", 1);
        bad(L, "2205 0100000001^ 000000", 1);
        bad(L, "2207 01000000010000^", 1);
        bad(L, "2a07 01000000000000^ 00", 1);
        bad(L, "2a09 010000000000000001^ 00000000000000", 1);
        bad(L, "2a0f 010000000000000001000000000000^", 1);
        bad(L, "2201 01^", 1);
        bad(L, "2a01 01^", 1);
        // a VARINT that goes on behind the end of what it stands in
        bad(L, "1201 80^ 01", 1);
        bad(L, "1203 0101ff^ 01", 1);
        bad(L, "0a02 0080^ 01", 1);
        bad(L, "120b 01 ^80808080808080808002", 2);
        bad(L, "1209 808080808080808080^ 02", 1);
        bad(L, "120a ^80808080808080808080 00", 2);
    }

    private static void otherWires() {
        begin();
        String[] r = {"09 0000000000000000", "0a 00", "0d 00000000", "11 0000000000000000", "12 00", "15 00000000", "28 00",
            "29 0000000000000000", "2a 00", "48 00", "4a 00", "4d 00000000", "50 00", "51 0000000000000000", "55 00000000",
            "58 00", "61 0000000000000000", "62 00", "68 00", "69 0000000000000000", "6d 00000000", "72 00", "78 00",
            "a201 00", "a801 00", "b001 00", "b801 00"};
        for (int i = 0; i < r.length; i++) {
            String hex = r[i];
            if (i % 14 == 0) {
                begin();
            }
            good(R, hex, 1, "R{}");
            Check.due("unknown: " + hex, c.house.told(1, 5), 1);
            c.house.encode(1, 0, 2);
            c.bytes("as it came", 2, hex.replace(" ", ""));
        }
        begin();
        String[] l = {"09 0000000000000000", "0d 00000000", "11 0000000000000000", "15 00000000", "20 00", "21 0000000000000000",
            "28 00", "2d 00000000", "31 0000000000000000", "35 00000000", "38 00", "39 0000000000000000", "3d 00000000", "40 00", "48 00",
            "49 0000000000000000", "4d 00000000", "58 00", "59 0000000000000000", "5d 00000000", "60 00", "800100", "850100000000"};
        for (int i = 0; i < l.length; i++) {
            String hex = l[i];
            if (i == 12) {
                begin();
            }
            good(L, hex, 1, "L{}");
            Check.due("unknown: " + hex, c.house.told(1, 5), 1);
        }
    }

    private static void unknown() {
        begin();
        again(R, "f88c8000 818000 0801 fa0c 03 616263 f10c 0102030405060708 f50c 01020304", "0801 f80c818000 fa0c03616263 f10c0102030405060708 f50c01020304");
        Check.due("four of them", c.house.told(1, 5), 4);
        Check.due("VALUES", c.house.told(1, 2), 5);
        Check.due("BYTES", c.house.told(1, 3), 3 + 4 + 8 + 4);
        // how many bytes stands as it came, too
        again(R, "fa0c 8300 616263", "fa0c8300616263");
        Check.due("BYTES with how many", c.house.told(1, 3), 5);
        again(R, "fa0c 00", "fa0c00");
        Check.due("one byte", c.house.told(1, 3), 1);
        // no later one takes the place of an earlier one
        again(R, "f80c01 f80c01 f80c02", "f80c01 f80c01 f80c02");
        Check.due("all are kept", c.house.told(1, 2), 3);
        // those of a record within stay with it
        again(R, "f80c01 6a06 f80c02 f80c03 f80c04", "6a06f80c02f80c03 f80c01 f80c04");
        Check.due("of all records", c.house.told(1, 5), 4);
        again(R, "6a03f80c02 6a03f80c03", "6a06f80c02f80c03");
        again(L, "4a03f80c02 4a03f80c03 5a05 1203f80c04", "4a03f80c02 4a03f80c03 5a07 0800 1203f80c04");
        // what is in them is not looked at
        again(R, "fa0c 02 ffff 5802", "fa0c02ffff 5802");
        good(R, "f80c01", 1, "R{}");
        c.read(0, 3, "R{}");
        Check.due("same() sees them", c.house.same(1, 3), 0);
        Check.due("DIFFERENCES do not", c.house.differ(1, 3), 0);
    }

    private static void laterTakesThePlace() {
        begin();
        good(R, "1001 1002", 1, "R{i:2}");
        good(R, "1001 1000", 0, "R{}");
        good(R, "520161 520162", 1, "R{t:\"b\"}");
        good(R, "520161 5200", 0, "R{}");
        good(R, "7005 7000", 1, "R{mi:0}");
        good(R, "7a0161 7a00", 1, "R{mt:\"\"}");
        good(R, "1001 1500000000 1202 0000", 3, "R{i:1}");
        bad(R, "5201^", 1);
        bad(R, "5201 ^ff 520161", 5);
    }

    private static void readOn() {
        begin();
        good(R, "6a021001 6a021802", 3, "R{r:{i:1,u:2}}");
        good(R, "6a021001 6a00", 2, "R{r:{i:1}}");
        good(R, "6a00", 1, "R{r:{}}");
        good(R, "6a021001 6a021000", 1, "R{r:{}}");
        good(R, "6a046a021001 6a046a021802", 4, "R{r:{r:{i:1,u:2}}}");
        good(R, "b201021001 b201021802", 3, "R{or:{i:1,u:2}}");
        good(L, "82010312 0101 82010312 0102", 4, "L{l:{li:[1,2]}}");
        // not of items
        good(L, "52021001 52021802", 5, "L{lr:[{i:1},{u:2}]}");
    }

    private static void ones() {
        begin();
        good(R, "a00101 aa0100", 1, "R{ot:\"\"}");
        good(R, "aa010161 a00100", 1, "R{oi:0}");
        good(R, "b201021001 ba0100", 1, "R{on:{}}");
        good(R, "ba0100 b201021001", 2, "R{or:{i:1}}");
        good(R, "b201021001 a00101 b201021802", 2, "R{or:{u:2}}");
        good(R, "ba0103f80c01 ba0103f80c02", 3, "R{on:{}}");
        good(R, "ba0103f80c01 a00100 ba0100", 1, "R{on:{}}");
        // another WIRE is not the field
        good(R, "a00101 a80100", 2, "R{oi:1}");
        good(R, "a00101 b00100 b80100", 3, "R{oi:1}");
        // what stands between the one's fields, and what is unknown, stays
        c.schema(1, "record T { one o { int a @ 1; int b @ 3; } int x @ 2; int y @ 4; }");
        for (String hex : new String[] {"1005 1801 0801 f80c01", "1801 1005 0801 f80c01", "0801 1005 1801 f80c01", "1005 0801 f80c01 1801"}) {
            c.load(0, hex);
            Check.due(hex, c.house.decode(1, 0, 0, 0, 2), 3);
            c.house.encode(2, 0, 2);
            c.bytes(hex, 2, (hex.indexOf("0801") > hex.indexOf("1801") ? "08011005" : "10051801") + "f80c01");
        }
        // within a record it is another one
        good(R, "a00101 6a03a00102", 3, "R{r:{oi:2},oi:1}");
        bad(R, "a00101 aa0101 ^ff", 5);
        bad(R, "a00101 aa0102 61^", 1);
    }

    private static void entries() {
        begin();
        good(L, "5a00", 3, "L{ml:<0:{}>}");
        good(L, "6200", 3, "L{te:<\"\":A>}");
        good(L, "6a00", 3, "L{fb:<0:false>}");
        good(L, "7200", 3, "L{lx:<0:\"\">}");
        good(L, "7a00", 3, "L{zr:<0:{}>}");
        good(L, "5a02 0805", 3, "L{ml:<5:{}>}");
        good(L, "6203 0a0161", 3, "L{te:<\"a\":A>}");
        good(L, "6202 1007", 3, "L{te:<\"\":B>}");
        good(L, "7203 120161", 3, "L{lx:<0:\"a\">}");
        // item ahead of key
        good(L, "6205 1007 0a0161", 3, "L{te:<\"a\":B>}");
        // of two the later one
        good(L, "6208 0a0161 0a0162 1007", 3, "L{te:<\"b\":B>}");
        good(L, "6204 1007 1000", 3, "L{te:<\"\":0>}");
        good(L, "7a08 1202 1001 1202 1802", 4, "L{zr:<0:{u:2}>}");
        good(L, "7a06 1202 1001 1200", 3, "L{zr:<0:{}>}");
        // in place of an item with that key
        good(L, "6205 0a01611007 6203 0a0161", 3, "L{te:<\"a\":A>}");
        good(L, "7a04 1202 1001 7a04 1202 1802", 4, "L{zr:<0:{u:2}>}");
        good(L, "5a0d 08ffffffffffffffffff01 1200 5a06 08ffffffff0f", 3, "L{ml:<-1:{}>}");
        // by their order, whatever order they came in
        good(L, "5a020802 5a020801 5a020803", 7, "L{ml:<1:{},2:{},3:{}>}");
        good(L, "5a0b 08ffffffffffffffffff01 5a020801", 5, "L{ml:<-1:{},1:{}>}");
        good(L, "6a05 0dffffffff 6a05 0d01000000", 5, "L{fb:<1:false,4294967295:false>}");
        good(L, "7a02 0801 7a02 0802", 5, "L{zr:<-1:{},1:{}>}");
        good(L, "62030a0162 62040a026161 62030a0161", 7, "L{te:<\"a\":A,\"aa\":A,\"b\":A>}");
        good(L, "62050a03786263 62050a03786262 62040a027862 62050a03786162 62040a027863", 11, "L{te:<\"xab\":A,\"xb\":A,\"xbb\":A,\"xbc\":A,\"xc\":A>}");
    }

    /** An item comes in place of one with its key, with nothing of what that was. */
    private static void entriesAnew() {
        begin();
        good(L, "6a021001 6a00", 3, "L{fb:<0:false>}");
        good(L, "7203120161 7200", 3, "L{lx:<0:\"\">}");
        good(L, "7a0412021805 7a021200", 3, "L{zr:<0:{}>}");
        good(L, "5a051203f80c01 5a051203f80c02", 4, "L{ml:<0:{}>}");
        Check.due("one unknown field", c.house.told(1, 5), 1);
        c.house.encode(1, 0, 2);
        c.bytes("the later one", 2, "5a0708001203f80c02");
        good(L, "5a061204 12020101 5a041202 1003", 5, "L{ml:<0:{li:[3]}>}");
        good(L, "5a041202 1003 1001 5a00", 5, "L{li:[1],ml:<0:{}>}");
    }

    private static void entriesPassOver() {
        begin();
        // other numbers, other WIRES of key and item
        good(L, "5a04 1a02 ffff", 3, "L{ml:<0:{}>}");
        good(L, "5a05 0a0161 1005", 3, "L{ml:<0:{}>}");
        good(L, "6204 0805 1200", 3, "L{te:<\"\":A>}");
        good(L, "6a07 0805 1500000000", 3, "L{fb:<0:false>}");
        good(L, "7210 1800 210000000000000000 2500000000", 3, "L{lx:<0:\"\">}");
        Check.due("they do not count", c.house.told(1, 5), 0);
        Check.due("nor their BYTES", c.house.told(1, 3), 0);
        good(L, "5a02 0805 5a00", 5, "L{ml:<0:{},5:{}>}");
        // faults of what is passed over
        bad(L, "5a02 1a01^", 1);
        bad(L, "5a02 18ff^", 1);
        bad(L, "5a0b 18 ^80808080808080808002", 2);
        bad(L, "5a04 0805 ^0300", 3);
        bad(L, "5a04 0805 ^0b00", 4);
    }

    private static void endsTooSoon() {
        begin();
        good(R, "", 0, "R{}");
        bad(R, "08^", 1);
        bad(R, "10ff^", 1);
        bad(R, "2d^", 1);
        bad(R, "2d000000^", 1);
        bad(R, "49^", 1);
        bad(R, "4900000000000000^", 1);
        bad(R, "52^", 1);
        bad(R, "5280^", 1);
        bad(R, "5201^", 1);
        bad(R, "5203 6162^", 1);
        bad(R, "5a03 ff^", 1);
        bad(R, "6a01^", 1);
        bad(R, "6a03 0801^", 1);
        bad(R, "f80c^", 1);
        bad(R, "f90c00000000000000^", 1);
        bad(R, "fd0c000000^", 1);
        bad(R, "fa0c01^", 1);
        bad(L, "1202 01^", 1);
        bad(L, "5a01^", 1);
        bad(L, "3a01^", 1);
        // how many bytes: as much as a VARINT may tell
        for (String many : "ffffffff07 8080808008 ffffffff0f 8080808010 ffffffffffffffff7f 80808080808080808001 ffffffffffffffffff01".split(" ")) {
            bad(R, "52" + many + "61^", 1);
            bad(R, "6a" + many + "0801^", 1);
            bad(R, "fa0c" + many + "61^", 1);
            bad(L, "12" + many + "01^", 1);
            bad(L, "5a" + many + "0801^", 1);
        }
        bad(R, "52f91e" + Check.times("61", 3960) + "^", 1);
    }

    /** What stands in a record, an entry, and ends with it, though the row goes on. */
    private static void endsWithin() {
        begin();
        bad(R, "6a01 08^ 01", 1);
        bad(R, "6a02 10ff^ 01", 1);
        bad(R, "6a01 88^ 0001", 1);
        bad(R, "6a04 2d000000^ 00", 1);
        bad(R, "6a08 4900000000000000^ 00", 1);
        bad(R, "6a02 5201^ 61", 1);
        bad(R, "6a01 52^ 0161", 1);
        bad(R, "6a02 6a01^ 08", 1);
        bad(R, "6a04 6a0308 01^ 00", 1);
        bad(R, "6a03 fa0c01^ 61", 1);
        bad(R, "6a05 fd0c000000^ 00", 1);
        bad(R, "b20102 5201^ 61", 1);
        bad(L, "5201 10^ 01", 1);
        bad(L, "5a01 08^ 01", 1);
        bad(L, "5a02 1201^ 10", 1);
        bad(L, "5a03 120112^ 00", 1);
        bad(L, "6202 0a01^ 61", 1);
        bad(L, "6a04 0d000000^ 00", 1);
        bad(L, "5a02 1a01^ ff", 1);
        bad(L, "8201 03 1202 01^ 01", 1);
        // the outer end is the nearer one
        bad(R, "6a05 6a0a 080108^ 01 1001", 1);
    }

    private static void wrongTexts() {
        begin();
        for (String wrong : "80 c3 c080 c1bf e08080 e09fbf eda080 edbfbf f0808080 f08fbfbf f4908080 f5808080 ff c328 61c3 e282 f09f98".split(" ")) {
            String many = String.format("%02x", wrong.length() / 2);
            bad(R, "52" + many + "^" + wrong, 5);
            good(R, "5a" + many + wrong, 1, "R{s:\"" + escaped(wrong) + "\"}");
        }
        begin();
        for (String right : "00 7f c280 dfbf e0a080 ed9fbf ee8080 efbfbf f0908080 f48fbfbf".split(" ")) {
            good(R, "52" + String.format("%02x", right.length() / 2) + right, 1, "R{t:\"" + escaped(right) + "\"}");
        }
        bad(R, "7a01 ^ff", 5);
        bad(R, "aa0102 ^61ff", 5);
        bad(L, "3a0161 3a01 ^ff", 5);
        bad(L, "6203 0a01 ^ff", 5);
        bad(L, "6206 0a01 ^ff 0a0161", 5);
        bad(L, "7203 1201 ^ff", 5);
        bad(R, "6a04 5202 ^6180", 5);
        // the first fault counts
        bad(R, "5201 ^ff 00", 5);
        bad(R, "^00 5201 ff", 3);
    }

    private static String escaped(String hex) {
        StringBuilder text = new StringBuilder();
        for (int i = 0; i < hex.length(); i += 2) {
            int v = Integer.parseInt(hex.substring(i, i + 2), 16);
            text.append(v > 31 && v < 127 ? "" + (char) v : "\\x" + hex.substring(i, i + 2));
        }
        return text.toString();
    }

    /** Bytes within so many records of one another; a ^ in them stays where it is. */
    private static String nested(String key, String hex, int times) {
        String inner = hex.replace(" ", "");
        for (int i = 0; i < times; i++) {
            inner = key + String.format("%02x", inner.replace("^", "").length() / 2) + inner;
        }
        return inner;
    }

    private static void deep() {
        begin();
        good(R, nested("6a", "", 11), 11, "R" + Check.times("{r:", 11) + "{}" + Check.times("}", 11));
        Check.due("12 deep", c.house.told(1, 4), 12);
        good(R, nested("b201", "", 11), 11, "R" + Check.times("{or:", 11) + "{}" + Check.times("}", 11));
        good(L, nested("4a", "", 11), 22, "L" + Check.times("{ll:[", 11) + "{}" + Check.times("]}", 11));
        good(L, nested("8201", "", 11), 11, "L" + Check.times("{l:", 11) + "{}" + Check.times("}", 11));
        bad(R, nested("6a", "^6a00", 11), 6);
        bad(R, nested("b201", "^b20100", 11), 6);
        bad(R, nested("6a", "^ba0100", 11), 6);
        bad(L, nested("4a", "^4a00", 11), 6);
        bad(L, nested("8201", "^820100", 11), 6);
        bad(L, nested("8201", "^5200", 11), 6);
        bad(R, nested("6a", "0801 ^ea8000 00", 11), 6);
        // looked at behind how many bytes it has
        bad(R, nested("6a", "6a01^", 11), 1);
        bad(R, nested("6a", "6a^", 11), 1);
        bad(R, nested("6a", "6a80^", 11), 1);
        bad(R, nested("6a", "6a ^80808080808080808002", 11), 2);
        // and ahead of what is in it
        bad(R, nested("6a", "^6a0100", 11), 6);
        bad(R, nested("6a", "^6a0108", 11), 6);
        // of another WIRE it is no record
        good(R, nested("6a", "6800", 11), 12, "R" + Check.times("{r:", 11) + "{}" + Check.times("}", 11));
        // a list of numbers, a text are not deeper
        good(R, nested("6a", "520161", 11), 12, "R" + Check.times("{r:", 11) + "{t:\"a\"}" + Check.times("}", 11));
    }

    private static void deepEntries() {
        begin();
        good(L, nested("4a", "5a00", 10), 23, "L" + Check.times("{ll:[", 10) + "{ml:<0:{}>}" + Check.times("]}", 10));
        Check.due("12 deep", c.house.told(1, 4), 12);
        // the KEY in its record
        bad(L, nested("4a", "5a02 ^1200", 11), 6);
        bad(L, nested("4a", "5a04 0805 ^1200", 11), 6);
        bad(L, nested("4a", "5a06 0805 ^1200 0806", 11), 6);
        bad(L, nested("4a", "7a02 ^1200", 11), 6);
        bad(L, nested("4a", "5a04 ^1201 00 00", 11), 6);
        bad(L, nested("4a", "5a02 1201^", 11), 1);
        bad(L, nested("4a", "5a03 12 8080^", 11), 1);
        // if that lacks, the map's, behind all in its record
        bad(L, nested("4a", "^5a00", 11), 6);
        bad(L, nested("4a", "^5a02 0805", 11), 6);
        bad(L, nested("4a", "^5a02 1000", 11), 6);
        bad(L, nested("4a", "1000 ^7a04 1a020000", 11), 6);
        bad(L, nested("4a", "5a02 08ff^", 11), 1);
        bad(L, nested("4a", "5a01 ^00", 11), 3);
        bad(L, nested("4a", "5a01 ^0b", 11), 4);
        bad(L, nested("4a", "5a0b 08 ^80808080808080808002", 11), 2);
        // items that are no records are not deeper
        good(L, nested("4a", "7200", 11), 25, "L" + Check.times("{ll:[", 11) + "{lx:<0:\"\">}" + Check.times("]}", 11));
        bad(L, nested("4a", "6203 0a01 ^ff", 11), 5);
        bad(L, nested("8201", "5a03 08 01^", 11), 1);
    }

    private static void large() {
        begin();
        good(L, "128f03" + Check.times("00", 399), 400, "L{li:[0" + Check.times(",0", 398) + "]}");
        bad(L, "^129003" + Check.times("00", 400), 7);
        bad(L, "^" + Check.times("1000", 400), 7);
        bad(L, "^3a00" + Check.times("1000", 398), 7);
        good(L, Check.times("1000", 397) + "3a00", 400, "L{li:[0" + Check.times(",0", 396) + "],lt:[\"\"]}");
        good(L, Check.times("4a00", 399), 400, "L{ll:[{}" + Check.times(",{}", 398) + "]}");
        bad(L, "^" + Check.times("4a00", 400), 7);
        // behind all else
        bad(L, "129003" + Check.times("00", 400) + "10^", 1);
        bad(L, "129003" + Check.times("00", 400) + "^00", 3);
        bad(L, "129003" + Check.times("00", 400) + "^0f", 4);
        bad(L, "129003" + Check.times("00", 400) + "3a01^ff", 5);
        bad(L, "129003" + Check.times("00", 400) + nested("4a", "^4a00", 11), 6);
        bad(L, "129003" + Check.times("00", 400) + "10^80808080808080808002", 2);
        // only what there is at last counts
        good(R, Check.times("1001", 2000), 1, "R{i:1}");
        good(L, Check.times("5a00", 2000), 3, "L{ml:<0:{}>}");
        good(R, Check.times("ba0103f80c00", 600) + "a00100", 1, "R{oi:0}");
        bad(R, "^" + Check.times("f80c00", 401), 7);
        bad(R, "^ba01b009" + Check.times("f80c00", 400), 7);
        bad(R, "^" + Check.times("6a03f80c00", 400), 7);
    }

    private static void largeBytes() {
        begin();
        good(R, "5ad00f" + Check.times("41", 2000), 1, "R{s:\"" + Check.times("A", 2000) + "\"}");
        bad(R, "^5ad10f" + Check.times("41", 2001), 7);
        bad(R, "^5ad00f" + Check.times("41", 2000) + "520141", 7);
        bad(R, "^5ad00f" + Check.times("41", 2000) + "f80c00", 7);
        bad(R, "^5ad00f" + Check.times("41", 2000) + "6a035a0141", 7);
        bad(R, "^5ad00f" + Check.times("41", 2000) + "7a0141", 7);
        bad(R, "^5ad00f" + Check.times("41", 2000) + "aa010141", 7);
        bad(L, "^42d00f" + Check.times("41", 2000) + "62030a0141", 7);
        bad(L, "^42d00f" + Check.times("41", 2000) + "7203120141", 7);
        bad(L, "^42d00f" + Check.times("41", 2000) + "420141", 7);
        good(L, "42d00f" + Check.times("41", 2000) + "4200", 3, "L{ls:[\"" + Check.times("A", 2000) + "\",\"\"]}");
        bad(L, "42d00f" + Check.times("41", 2000) + "420141 ^00", 3);
        // an earlier one is gone
        good(R, "5ac40e" + Check.times("41", 1860) + "5ad00f" + Check.times("42", 2000), 1, "R{s:\"" + Check.times("B", 2000) + "\"}");
        good(R, "5ad10f" + Check.times("41", 2001) + "5a0142", 1, "R{s:\"B\"}");
        // of a DEFAULT no BYTES
        c.schema(0, "record R { text t @ 1 = \"abc\"; bytes s @ 2; }");
        c.load(0, "12d00f" + Check.times("41", 2000) + "0a03616263");
        Check.due("the DEFAULT, told", c.house.decode(0, 0, 0, 0, 1), 1);
        Check.due("2000 BYTES", c.house.told(1, 3), 2000);
    }

    /** 4000 bytes may be WRITTEN: 166 items of a MAP have 24 each, a has 11. */
    private static void mostWritten() {
        begin();
        c.schema(0, "record R { map<long, long> m @ 1; long a @ 2; long b @ 3; }");
        StringBuilder items = new StringBuilder("-1:-1");
        for (int i = 2; i <= 166; i++) {
            items.append(",-").append(i).append(":-1");
        }
        Check.due("166 items", c.read(0, 1, "R{m:<" + items + ">,a:-1}"), 334);
        Check.due("3995 bytes", c.house.encode(1, 0, 2), 166 * 24 + 11);
        c.put(1, "b = 2097152");
        Check.due("4000 bytes", c.house.encode(1, 0, 2), 4000);
        c.put(1, "b = 268435456");
        Check.due("4001 bytes", c.house.encode(1, 0, 2), Check.FULL);
        Check.due("the row stays", c.house.size(2), 4000);
        Check.due("its last byte too", c.house.octet(2, 3999), 1);
        Check.due("another stays without bytes", c.house.encode(1, 0, 3) + c.house.size(3), Check.FULL);
        Check.due("its message stays", c.house.told(1, 2), 335);
    }

    private static void refused() {
        begin();
        c.read(0, 0, "R{i:77}");
        c.load(0, "00");
        for (int m : new int[] {0, 5}) {
            c.fault("a fault", c.house.decode(0, R, 0, 0, m), 3, 0);
        }
        c.printed("m stays", 0, "R{i:77}");
        Check.due("a fault makes no message", c.house.told(5, 0), Check.NO);
        c.bytes("the row stays", 0, "00");
        c.load(0, "1005");
        Check.due("an enum", c.house.decode(0, 0, 0, 0, 0), Check.BAD);
        Check.due("an empty record", c.house.decode(0, 1, 0, 0, 0), 1);
        Check.due("the same row in place of m", c.house.decode(0, R, 0, 0, 0), 1);
        c.printed("it is R now", 0, "R{i:5}");
    }
}
