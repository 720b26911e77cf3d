/** Promise 10: decode with the faults of three formats, ask, number. */
public final class Promise10Decode {
    private static Check C = new Check();
    private static final String SCHEMA = "enum E { A = 1; B = 7; } record N { } record R { bool b @ 1 = true; int i @ 2; text t @ 3 = \"d\"; R r @ 4; many int l @ 5; many text lt @ 6; many R lr @ 7; map<text, R> m @ 8; map<int, E> me @ 9; one o { text p @ 10; N n @ 11; long j @ 12; R q @ 13; } maybe bytes y @ 14; E e @ 15; }";
    private static final int R = 2;

    public static void main(String[] args) {
        arguments();
        streamValues();
        streamFaults();
        linearFaults();
        slottedValues();
        slottedFaults();
        slottedWalks();
        asked();
        lastText();
        keysWithoutSign();
        oneThenUnknown();
        shortEntries();
        walked();
        wideRecords();
        nothingSet();
        Check.end();
    }

    private static void arguments() {
        C = new Check();
        C.schema(0, SCHEMA);
        WireHouse x = C.house;
        C.load(0, "");
        Check.due("an empty row", x.decode(0, R, 0, 0, 0), 0);
        Check.due("no such schema", x.decode(4, R, 0, 0, 0), Check.BAD);
        Check.due("an enum", x.decode(0, 0, 0, 0, 0), Check.BAD);
        Check.due("no type", x.decode(0, 3, 0, 0, 0), Check.BAD);
        Check.due("below 0 of no schema", x.decode(1, -1, 0, 0, 0), Check.BAD);
        Check.due("no format", x.decode(0, R, 3, 0, 0), Check.BAD);
        Check.due("no row", x.decode(0, R, 0, 8, 0), Check.BAD);
        Check.due("no message", x.decode(0, R, 0, 0, 12), Check.BAD);
        Check.due("no schema there", x.decode(1, 99, 0, 0, 0), Check.NO);
    }

    private static void good(int format, String hex, String due) {
        C.load(0, hex);
        Check.due("decode of " + hex + " is told at", C.house.decode(0, R, format, 0, 0) >= 0 ? C.house.place() : 0, Check.NO);
        C.printed(hex, 0, due);
    }

    private static void bad(int format, String hex, int fault, int place) {
        C.load(0, hex);
        C.read(0, 0, "R {i: 77}");
        C.fault(hex, C.house.decode(0, R, format, 0, 0), fault, place);
        C.printed("the message stays", 0, "R{i:77}");
    }

    private static void streamValues() {
        C = new Check();
        C.schema(0, SCHEMA);
        good(0, "0800", "R{b:false}");
        good(0, "0880808080808080808001", "R{}");
        good(0, "10ffffffff0f 7887800c", "R{i:-1,e:B}");
        good(0, "10ff808080808080808001", "R{i:127}");
        good(0, "1a0161 1a0162 1002 1003", "R{i:3,t:\"b\"}");
        good(0, "1a0164 7801", "R{}");
        good(0, "2202 1001 2203 1a0161", "R{r:{i:1,t:\"a\"}}");
        good(0, "2801 2a03 020304 2805 2a00", "R{l:[1,2,3,4,5]}");
        good(0, "2a00 3200 3200", "R{lt:[\"\",\"\"]}");
        good(0, "4200", "R{m:<\"\":{}>}");
        good(0, "4205 0a0161 1200 4206 1202 1001 0a00 4209 0a0161 1202 1002 1801", "R{m:<\"\":{i:1},\"a\":{i:2}>}");
        good(0, "4208 1202 1001 1202 0800", "R{m:<\"\":{b:false}>}");
        good(0, "4a00 4a04 0805 1007 4a02 0805", "R{me:<0:A,5:A>}");
        good(0, "4a07 0801 0a0161 1007", "R{me:<1:B>}");
        good(0, "520161 6005", "R{j:5}");
        good(0, "6a021001 6a021a00", "R{q:{i:1,t:\"\"}}");
        good(0, "6a021001 5a00 6a00", "R{q:{}}");
        good(0, "7200", "R{y:\"\"}");
        C.load(0, "1201 ff 2001 800105 f8ffffff0f00");
        Check.due("unknown: another WIRE, another number", C.house.decode(0, R, 0, 0, 0), 4);
        C.house.encode(0, 0, 1);
        C.bytes("as they stand", 1, "1201ff2001800105f8ffffff0f00");
    }

    private static void streamFaults() {
        C = new Check();
        C.schema(0, SCHEMA);
        bad(0, "08", 1, 1);
        bad(0, "0880", 1, 2);
        bad(0, "80", 1, 1);
        bad(0, "1a02 61", 1, 3);
        bad(0, "2203 1a02 61", 1, 5);
        bad(0, "2202 1a02 61", 1, 4);
        bad(0, "2a02 0180", 1, 4);
        bad(0, "1affffffffffffffffff01", 1, 11);
        bad(0, "f90100000000000000", 1, 9);
        bad(0, "fd01000000", 1, 5);
        bad(0, "08 80808080808080808002", 2, 1);
        bad(0, "0800 ffffffffffffffffffff01", 2, 2);
        bad(0, "0800 00", 3, 2);
        bad(0, "07", 3, 0);
        bad(0, "8080808010 00", 3, 0);
        bad(0, "0b", 4, 0);
        bad(0, "0800 0c", 4, 2);
        bad(0, "0e", 4, 0);
        bad(0, "0f", 4, 0);
        bad(0, "1a02 c380 1a02 80c3", 5, 6);
        bad(0, "3203 eda080", 5, 2);
        bad(0, "4204 0a02 c328", 5, 4);
        bad(0, "4a02 0b00", 4, 2);
        C = new Check();
        C.schema(0, SCHEMA);
        String deep = nested("", 11);
        C.load(0, deep);
        Check.due("12 deep", C.house.decode(0, R, 0, 0, 1), 11);
        bad(0, nested("2200", 11), 6, 22);
        bad(0, nested("3a00", 11), 6, 22);
        bad(0, nested("4204 0a00 1200", 11), 6, 26);
        bad(0, nested("4202 0a00", 11), 6, 22);
        bad(0, nested("4203 0a0180", 11), 5, 26);
        bad(0, nested("2201", 11), 1, 24);
        bad(0, "2a9103" + Check.times("01", 401), 7, 0);
        C.load(0, "2a8f03" + Check.times("01", 399));
        Check.due("400 VALUES", C.house.decode(0, R, 0, 0, 1), 400);
        C = new Check();
        C.schema(0, SCHEMA);
        C.load(0, Check.times("1001", 1000));
        Check.due("one value, told often", C.house.decode(0, R, 0, 0, 1), 1);
    }

    /** Bytes within so many records in field 4 of one another. */
    private static String nested(String hex, int times) {
        String inner = hex.replace(" ", "");
        for (int i = 0; i < times; i++) {
            inner = "22" + String.format("%02x", inner.length() / 2) + inner;
        }
        return inner;
    }

    private static void linearFaults() {
        C = new Check();
        C.schema(0, SCHEMA);
        // b, i, t, r, l, lt, lr, m, me, o, y, e
        String t = "00000001 64000000";
        String zeros = Check.times("00000000", 8);
        good(1, "00000001 00000002" + t + zeros + "00000001", "R{i:2}");
        good(1, "00000000 00000000" + t + Check.times("00000000", 6) + "0000000c 0000000000000005 00000000 00000007", "R{b:false,j:5,e:B}");
        bad(1, "", 1, 0);
        bad(1, "000000", 1, 3);
        bad(1, "00000002", 2, 0);
        bad(1, "00000001 00000000 80000000 64", 1, 13);
        bad(1, "00000001 00000000 00000002 64", 1, 13);
        bad(1, "00000001 00000000 00000001 64", 1, 13);
        bad(1, "00000001 00000000 00000001 64000100", 3, 14);
        bad(1, "00000001 00000000 00000002 c300 0100", 5, 12);
        bad(1, "00000001 00000000" + t + "00000003", 2, 16);
        bad(1, "00000001 00000000" + t + zeros + "00000002", 4, 48);
        bad(1, "00000001 00000000" + t + zeros + "00000001 00", 10, 52);
        bad(1, "00000001 00000000" + t + "00000000 00000191", 7, 20);
        bad(1, "00000001 00000000" + t + "00000000 00000001 00000000 00000190", 7, 28);
        bad(1, "00000001 00000000" + t + "00000000 ffffffff", 7, 20);
        bad(1, "00000001 00000000" + t + Check.times("00000000", 6) + "00000001", 8, 40);
        String map = "00000001 00000000" + t + Check.times("00000000", 5);
        bad(1, map + "00000002 00000005 00000001 00000005", 9, 48);
        bad(1, map + "00000002 00000005 00000001 fffffffe", 9, 48);
        bad(1, map + "00000001 00000005 00000003", 4, 44);
        map = "00000001 00000000" + t + Check.times("00000000", 4);
        String rec = "00000001 00000000" + t + zeros + "00000001";
        bad(1, map + "00000002 00000001 61000000" + rec + "00000001 61000000", 9, 44 + 52);
        bad(1, map + "00000002 00000001 61000000" + rec + "00000001 61000001", 3, 44 + 52 + 7);
        StringBuilder deep = new StringBuilder();
        for (int i = 0; i < 11; i++) {
            deep.append("00000001 00000000" + t + "00000001");
        }
        bad(1, deep + "00000001 00000000" + t + "00000001", 6, 12 * 20);
        bad(1, deep + "00000001 00000000" + t + "00000002", 2, 12 * 20 - 4);
        bad(1, "00000001 00000000" + t + "00000000 00000190" + Check.times("00000001", 400) + zeros.substring(16) + "00000001", 7, 0);
    }

    /** A record R whose words are 0 but for one pointer, and the pointer to it. */
    private static String root(int pointer, String word) {
        int data = C.house.type(0, R, 3);
        int pointers = C.house.type(0, R, 4);
        return Check.word((long) data << 32 | (long) pointers << 48) + Check.times(Check.word(0), data + pointer)
            + word + Check.times(Check.word(0), pointers - pointer - 1);
    }

    private static int wordOf(int pointer) {
        return 1 + C.house.type(0, R, 3) + pointer;
    }

    private static int pointer(int field) {
        return C.house.field(0, R, field, 7);
    }

    private static long list(int at, int to, int sort, long count) {
        return 1 | (to - at - 1L) << 2 & 0xffffffffL | (long) sort << 32 | count << 35;
    }

    private static void slottedValues() {
        C = new Check();
        C.schema(0, SCHEMA);
        good(2, Check.word(0), "R{}");
        good(2, Check.word(0xfffffffcL), "R{}");
        good(2, Check.word(1L << 32) + Check.word(1 | 5L << 32), "R{b:false,i:5}");
        good(2, Check.word(4L << 2 | 1L << 32) + Check.times(Check.word(-1), 4) + Check.word(1), "R{b:false}");
        int at = wordOf(pointer(2));
        int end = 1 + C.house.type(0, R, 3) + C.house.type(0, R, 4);
        good(2, root(pointer(2), Check.word(list(at, end, 2, 2))) + "6100000000000000", "R{t:\"a\"}");
        good(2, root(pointer(2), Check.word(list(at, end, 2, 1))) + "0061000000000000", "R{t:\"\"}");
        at = wordOf(pointer(4));
        good(2, root(pointer(4), Check.word(list(at, end, 4, 3))) + "0100000002000000" + "ffffffff00000000", "R{l:[1,2,-1]}");
        good(2, root(pointer(4), Check.word(list(at, end, 4, 0))), "R{}");
        // a TAG of each of the one's four, with pointers and words of 0
        String[] due = {"R{p:\"\"}", "R{n:{}}", "R{j:0}", "R{q:{}}"};
        int tag = C.house.field(0, R, 9, 8);
        for (int i = 0; i < 4; i++) {
            good(2, Check.word(1L << 32) + Check.word(i + 1L << tag), due[i]);
        }
    }

    private static void slottedFaults() {
        C = new Check();
        C.schema(0, SCHEMA);
        bad(2, "", 1, 0);
        bad(2, "00000000000000", 1, 7);
        bad(2, Check.word(0) + "00", 1, 9);
        bad(2, Check.word(2), 2, 0);
        bad(2, Check.word(7), 2, 0);
        bad(2, Check.word(1), 2, 0);
        bad(2, Check.word(1L << 32), 3, 0);
        bad(2, Check.word(4), 3, 0);
        good(2, Check.word(4) + Check.word(0), "R{}");
        bad(2, Check.word(-8L & 0xffffffffL), 3, 0);
        int tag = C.house.field(0, R, 9, 8);
        bad(2, Check.word(1L << 32) + Check.word(5L << tag), 8, 8);
        int end = 1 + C.house.type(0, R, 3) + C.house.type(0, R, 4);
        int p = pointer(2);
        int at = wordOf(p);
        bad(2, root(p, Check.word(4)), 2, at * 8);
        bad(2, root(p, Check.word(list(at, end, 2, 1))), 3, at * 8);
        bad(2, root(p, Check.word(list(at, end, 0, 1))), 4, at * 8);
        bad(2, root(p, Check.word(list(at, end, 3, 1))) + Check.word(0), 4, at * 8);
        bad(2, root(p, Check.word(list(at, end, 2, 0))), 5, at * 8);
        bad(2, root(p, Check.word(list(at, end, 2, 2))) + Check.word(0x6161), 5, at * 8);
        bad(2, root(p, Check.word(list(at, end, 2, 2))) + Check.word(0xff), 5, at * 8);
        p = pointer(3);
        at = wordOf(p);
        bad(2, root(p, Check.word(list(at, end, 7, 0))) + Check.word(0), 2, at * 8);
        p = pointer(6);
        at = wordOf(p);
        bad(2, root(p, Check.word(list(at, end, 7, 0))), 3, at * 8);
        good(2, root(p, Check.word(list(at, end, 7, 0))) + Check.word(2L << 2), "R{lr:[{},{}]}");
        bad(2, root(p, Check.word(list(at, end, 7, 0))) + Check.word(1), 9, end * 8);
        bad(2, root(p, Check.word(list(at, end, 7, 1))) + Check.word(1L << 2) + Check.word(0), 9, end * 8);
        good(2, root(p, Check.word(list(at, end, 7, 1))) + Check.word(1L << 2 | 1L << 32) + Check.word(1), "R{lr:[{b:false}]}");
        C = new Check();
        C.schema(0, SCHEMA);
        bad(2, root(p, Check.word(list(at, end, 7, 0))) + Check.word(401L << 2), 7, at * 8);
        bad(2, root(p, Check.word(list(at, end, 7, 0))) + Check.word(0xfffffffcL), 7, at * 8);
        p = pointer(8);
        at = wordOf(p);
        String two = Check.word(list(at, end, 7, 2)) ;
        good(2, root(p, two) + Check.word(2L << 2 | 1L << 32) + Check.word(1 | 7L << 32) + Check.word(2), "R{me:<1:B,2:0>}");
        bad(2, root(p, two) + Check.word(2L << 2 | 1L << 32) + Check.word(2) + Check.word(2), 10, at * 8);
        bad(2, root(p, two) + Check.word(2L << 2 | 1L << 32) + Check.word(2) + Check.word(1), 10, at * 8);
        p = pointer(7);
        at = wordOf(p);
        good(2, root(p, Check.word(list(at, end, 7, 0))) + Check.word(1L << 2), "R{m:<\"\":{}>}");
        bad(2, root(p, Check.word(list(at, end, 7, 0))) + Check.word(2L << 2), 10, at * 8);
    }

    private static void slottedWalks() {
        C = new Check();
        C.schema(0, SCHEMA);
        int data = C.house.type(0, R, 3);
        int pointers = C.house.type(0, R, 4);
        int each = data + pointers;
        int p = pointer(3);
        String down = Check.times(Check.word(0), data + p)
            + Check.word((pointers - p - 1L) << 2 | (long) data << 32 | (long) pointers << 48)
            + Check.times(Check.word(0), pointers - p - 1);
        String top = Check.word((long) data << 32 | (long) pointers << 48);
        String last = Check.times(Check.word(0), each);
        good(2, top + Check.times(down, 11) + last, "R" + Check.times("{r:", 11) + "{" + Check.times("}", 12));
        bad(2, top + Check.times(down, 12) + last, 6, (1 + 11 * each + data + p) * 8);
        // a record whose r leads to itself
        String self = top + Check.times(Check.word(0), data + p)
            + Check.word((-data - p - 1L) << 2 & 0xffffffffL | (long) data << 32 | (long) pointers << 48)
            + Check.times(Check.word(0), pointers - p - 1);
        bad(2, self, 6, (1 + data + p) * 8);
        // 400 items of numbers may be, 401 are too many; with the field they are LARGE
        int l = pointer(4);
        int at = wordOf(l);
        int end = 1 + each;
        bad(2, root(l, Check.word(list(at, end, 4, 401))) + Check.times(Check.word(0), 201), 7, at * 8);
        bad(2, root(l, Check.word(list(at, end, 4, 400))) + Check.times(Check.word(0), 200), 7, 0);
        // texts: 5 that walk 199 words each, and all the same bytes, are more than 1000 with the root
        int k = pointer(5);
        at = wordOf(k);
        StringBuilder texts = new StringBuilder(root(k, Check.word(list(at, end, 6, 5))));
        for (int i = 0; i < 5; i++) {
            texts.append(Check.word(list(end + i, end + 5, 2, 199 * 8)));
        }
        texts.append(Check.times(Check.word(0), 199));
        bad(2, texts.toString(), 7, (end + 4) * 8);
    }

    /** A text that is the last thing in a row lacks what follows it. */
    private static void lastText() {
        Check c = new Check();
        c.schema(0, "record L { text t @ 1; }");
        String[] rows = {"00000003 616263", "00000002 6162 00", "00000002 6162", "00000004 616263", "00000001"};
        int[] ends = {7, 7, 6, 7, 4};
        for (int i = 0; i < rows.length; i++) {
            c.load(0, rows[i]);
            c.fault(rows[i], c.house.decode(0, 0, 1, 0, 0), 1, ends[i]);
        }
        c.load(0, "00000003 616263 00");
        Check.due("with its 0", c.house.decode(0, 0, 1, 0, 0), 1);
        c.load(0, "00000004 61626364");
        Check.due("without one", c.house.decode(0, 0, 1, 0, 0), 1);
        c.load(0, "80000000 61626364");
        c.fault("2147483648 bytes", c.house.decode(0, 0, 1, 0, 0), 1, 8);
        c.load(0, "ffffffff 61626364");
        c.fault("4294967295 bytes", c.house.decode(0, 0, 1, 0, 0), 1, 8);
    }

    /** Keys of ulong and fixlong go by size without sign. */
    private static void keysWithoutSign() {
        Check c = new Check();
        for (String kind : new String[] {"ulong", "fixlong"}) {
            c.schema(0, "record L { map<" + kind + ", bool> m @ 1; }");
            String one = kind.equals("ulong") ? "0801" : "090100000000000000";
            String most = kind.equals("ulong") ? "08ffffffffffffffffff01" : "09ffffffffffffffff";
            String head = kind.equals("ulong") ? "0a0b" : "0a09";
            c.load(0, head + most + (kind.equals("ulong") ? "0a02" : "0a09") + one);
            Check.due("a STREAM in another order", c.house.decode(0, 0, 0, 0, 0), 5);
            c.printed("by size", 0, "L{m:<1:false,18446744073709551615:false>}");
            for (int format = 1; format < 3; format++) {
                c.house.encode(0, format, 1);
                Check.due("in order", c.house.decode(0, 0, format, 1, 1), 5);
                Check.due("the same", c.house.same(0, 1), 1);
            }
            c.load(1, "00000002 ffffffffffffffff 00000000 0000000000000001 00000000");
            c.fault("LINEAR in another order", c.house.decode(0, 0, 1, 1, 1), 9, 16);
        }
        c.schema(0, "record L { map<long, bool> m @ 1; }");
        c.load(1, "00000002 ffffffffffffffff 00000000 0000000000000001 00000000");
        Check.due("of long with sign", c.house.decode(0, 0, 1, 1, 1), 5);
    }

    /** What comes behind a field of a one that went is kept. */
    private static void oneThenUnknown() {
        Check c = new Check();
        c.schema(0, "record L { one o { int a @ 1; int b @ 2; } many int l @ 3; }");
        c.load(0, "1002 0801 2005 2006");
        Check.due("b, then a, and two unknown ones", c.house.decode(0, 0, 0, 0, 0), 3);
        c.house.encode(0, 0, 1);
        c.bytes("all of them", 1, "080120052006");
    }

    /** Records of a MAP with fewer words than their LAYOUT has. */
    private static void shortEntries() {
        Check c = new Check();
        c.schema(0, "record N { } record L { map<int, text> m @ 1; map<text, N> t @ 2; }");
        String top = Check.word(2L << 48);
        c.load(0, top + Check.word(list(1, 3, 7, 2)) + Check.word(0) + Check.word(2L << 2 | 1L << 32) + Check.word(1) + Check.word(2));
        Check.due("without pointers", c.house.decode(0, 1, 2, 0, 0), 5);
        c.printed("no bytes", 0, "L{m:<1:\"\",2:\"\">}");
        c.load(0, top + Check.word(0) + Check.word(list(2, 3, 7, 0)) + Check.word(1L << 2) + Check.word(2) + Check.word(3));
        Check.due("without anything", c.house.decode(0, 1, 2, 0, 0), 3);
        c.printed("no bytes, an empty record", 0, "L{t:<\"\":{}>}");
    }

    /** 1000 words may be WALKED: three by the top, and those of three records that are one. */
    private static void walked() {
        Check c = new Check();
        c.schema(0, "record L { L a @ 1; L b @ 2; L c @ 3; }");
        for (int last = 333; last <= 334; last++) {
            c.load(0, Check.word(3L << 48) + Check.word(2L << 2 | 332L << 32) + Check.word(1L << 2 | 332L << 32)
                + Check.word((long) last << 32) + Check.times(Check.word(0), 334));
            if (last == 333) {
                Check.due("1000 words", c.house.decode(0, 0, 2, 0, 0), 3);
            } else {
                c.fault("1001 words", c.house.decode(0, 0, 2, 0, 0), 7, 24);
            }
        }
    }

    private static final String WIDE = "record Z { " + fields("bool", 1, 8, "true") + fields("int", 9, 8, "7") + fields("ulong", 17, 8, "9") + "} record Q { many Z a @ 1; map<int, Z> m @ 2; map<text, Z> t @ 3; many Q q @ 4; text s @ 5 = \"abc\"; many bool b @ 6; } ";

    private static String fields(String type, int first, int count, String value) {
        StringBuilder text = new StringBuilder();
        for (int i = first; i < first + count; i++) {
            text.append(type + " f" + i + " @ " + i + " = " + value + "; ");
        }
        return text.toString();
    }

    /** Many records of 24 fields, none of which is SET: they are LARGE by their VALUES alone. */
    private static void wideRecords() {
        Check c = new Check();
        c.schema(0, WIDE);
        String top = Check.word(1L << 48) + Check.word(list(1, 2, 7, 0));
        for (int n : new int[] {1, 248, 249, 250, 399}) {
            c.load(0, top + Check.word((long) n << 2));
            Check.due(n + " records without words", c.house.decode(0, 1, 2, 0, 0), n + 1);
            Check.due("their field and they are SET", c.house.told(0, 2), n + 1);
            c.printed("in text", 0, "Q{a:[{}" + Check.times(",{}", n - 1) + "]}");
        }
        c = new Check();
        c.schema(0, WIDE);
        c.load(0, top + Check.word(400L << 2));
        c.fault("401 VALUES", c.house.decode(0, 1, 2, 0, 0), 7, 0);
        c.load(0, top + Check.word(401L << 2));
        c.fault("401 items", c.house.decode(0, 1, 2, 0, 0), 7, 8);
        // a word each of zeros: still their DEFAULTS
        c.load(0, Check.word(1L << 48) + Check.word(list(1, 2, 7, 390)) + Check.word(390L << 2 | 1L << 32) + Check.times(Check.word(0), 390));
        Check.due("390 records of a word", c.house.decode(0, 1, 2, 0, 0), 391);
        c = new Check();
        c.schema(0, WIDE);
        // the last word is that of a fault, which comes ahead of LARGE
        c.load(0, Check.word(4L << 48) + Check.word(list(1, 5, 7, 0)) + Check.word(0) + Check.word(0) + Check.word(2) + Check.word(399L << 2));
        c.fault("behind all of them", c.house.decode(0, 1, 2, 0, 0), 2, 32);
        // keys 0 .. 198, and items that are empty records
        StringBuilder map = new StringBuilder(Check.word(2L << 48) + Check.word(0) + Check.word(list(2, 3, 7, 398)) + Check.word(199L << 2 | 1L << 32 | 1L << 48));
        for (int i = 0; i < 199; i++) {
            map.append(Check.word(i) + Check.word(0));
        }
        c.load(0, map.toString());
        Check.due("199 items of a MAP", c.house.decode(0, 1, 2, 0, 0), 399);
        // one record of 24 fields that are SET
        c.load(0, Check.word(1L << 48) + Check.word(list(1, 2, 7, 13)) + Check.word(1L << 2 | 13L << 32) + Check.word(-1) + Check.times(Check.word(5L << 32 | 5), 12));
        Check.due("all SET", c.house.decode(0, 1, 2, 0, 0), 26);
    }

    /** What has its DEFAULT or no item behind a pointer is not SET, however often it is come to. */
    private static void nothingSet() {
        Check c = new Check();
        c.schema(0, WIDE);
        // records of 6 pointers, of which the fifth leads to the text, the sixth to a list of none
        StringBuilder row = new StringBuilder(Check.word(4L << 48) + Check.word(0) + Check.word(0) + Check.word(0) + Check.word(list(4, 5, 7, 70 * 6)) + Check.word(70L << 2 | 6L << 48));
        int end = 6 + 70 * 6;
        for (int i = 0; i < 70; i++) {
            int at = 6 + 6 * i;
            row.append(Check.times(Check.word(0), 4) + Check.word(list(at + 4, end, 2, 4)) + Check.word(list(at + 5, end, 1, 0)));
        }
        c.load(0, row + Check.word(0x636261));
        Check.due("70 records without anything SET", c.house.decode(0, 1, 2, 0, 0), 71);
        Check.due("no BYTES", c.house.told(0, 3), 0);
        // a one's fields that take one another away, in a STREAM
        String ring = "record Q { one o { bool a @ 1; int b @ 2; text t @ 3; Q q @ 4; } text s @ 5 = \"abc\"; map<int, Q> m @ 6; many bool l @ 7; }";
        c = new Check();
        c.schema(0, ring);
        c.load(0, Check.times("0801 1002 1a0178 2200", 363) + "0800 2a03616263");
        Check.due("the last of a one", c.house.decode(0, 0, 0, 0, 0), 1);
        StringBuilder maps = new StringBuilder();
        StringBuilder records = new StringBuilder("record Q { ");
        for (int i = 1; i <= 15; i++) {
            records.append("map<int, bool> m" + i + " @ " + i + "; ");
            maps.append(String.format("%02x00", i * 8 + 2));
        }
        records.append("} record R { one o { Q a @ 1; Q b @ 2; bool c @ 3; } map<int, Q> m @ 4; }");
        Check d = new Check();
        d.schema(0, records.toString());
        String fifteen = "1e" + maps;
        d.load(0, Check.times("0a" + fifteen + "12" + fifteen, 62));
        Check.due("MAPS of a one's records that went", d.house.decode(0, 1, 0, 0, 0), 46);
        d = new Check();
        d.schema(0, records.toString());
        d.load(0, Check.times("0a" + fifteen + "1800", 117));
        Check.due("all of them went", d.house.decode(0, 1, 0, 0, 0), 1);
        d = new Check();
        d.schema(0, records.toString());
        d.load(0, Check.times("222012" + fifteen, 117));
        Check.due("MAPS in a MAP's item that another one took the place of", d.house.decode(0, 1, 0, 0, 0), 48);
        c = new Check();
        c.schema(0, ring);
        c.load(0, Check.times("3200", 2000));
        Check.due("2000 times one key", c.house.decode(0, 0, 0, 0, 0), 3);
        c = new Check();
        c.schema(0, ring);
        c.load(0, Check.times("3204 1202 2200", 600) + Check.times("2a03616263", 80));
        Check.due("600 items of one key", c.house.decode(0, 0, 0, 0, 0), 4);
        c = new Check();
        c.schema(0, ring);
        c.load(0, "3ae31e" + Check.times("01", 3939));
        c.fault("3939 items", c.house.decode(0, 0, 0, 0, 0), 7, 0);
    }

    private static void asks(String path, int sort, long number) {
        Check.due(path, C.ask(0, 5, path), sort);
        Check.due("number of " + path, C.house.number(), number);
    }

    private static void bytes(String path, String due) {
        asks(path, 2, due.length());
        C.row("bytes of " + path, 5, due);
    }

    private static void asked() {
        C = new Check();
        C.schema(0, SCHEMA);
        C.read(0, 0, "R {i: -3, r: {t: \"abc\", lt: [\"x\", \"\"]}, l: [4, 5], lr: [{i: 6}, {}], m: <\"k\": {i: 7}, \"\": {}>, me: <-1: B>, q: {r: {}}, y: \"\\x00\"}");
        asks("i", 1, -3);
        asks("b", 1, 1);
        bytes("t", "d");
        bytes("r.t", "abc");
        bytes("r.lt[1]", "");
        bytes(" r . lt [ 0 ] # remark", "x");
        bytes("y", "\u0000");
        asks("r", 3, R);
        asks("l", 4, 2);
        C.row("the row has what came last", 5, "\u0000");
        asks("l[1]", 1, 5);
        asks("l[2]", 0, 0);
        asks("l[-1]", 0, 0);
        asks("l[9223372036854775807]", 0, 0);
        asks("lr[1].i", 1, 0);
        asks("lr[1].l", 4, 0);
        asks("lr[1].m", 5, 0);
        asks("lr[1].y", 0, 0);
        asks("lr[2].l", 0, 0);
        asks("m", 5, 2);
        asks("m[\"k\"].i", 1, 7);
        asks("m[\"\\x6b\"]", 3, R);
        asks("m[\"z\"].i", 0, 0);
        asks("me[-1]", 1, 7);
        asks("me[1]", 0, 0);
        asks("q.r.e", 1, 1);
        asks("p", 0, 0);
        asks("n", 0, 0);
        asks("r.r.r.r.r.r.r.r.r.r.r.r.r.r.r.i", 0, 0);
        C.ask(0, 5, "i");
        C.fault("no NAME", C.ask(0, 5, ""), 2, 0);
        Check.due("number with a fault", C.house.number(), 0);
        C.fault("no field", C.ask(0, 5, "x"), 5, 0);
        C.fault("a one is no field", C.ask(0, 5, "o"), 5, 0);
        C.fault("no field within", C.ask(0, 5, "r.x"), 5, 2);
        C.fault("no record", C.ask(0, 5, "i.1"), 5, 1);
        C.fault("MANY are no record", C.ask(0, 5, "lr.i"), 5, 2);
        C.fault("no NAME behind .", C.ask(0, 5, "r.1"), 2, 2);
        C.fault("no items", C.ask(0, 5, "r[1]"), 5, 1);
        C.fault("no items of an item", C.ask(0, 5, "l[1][1]"), 5, 4);
        C.fault("STRING of MANY", C.ask(0, 5, "l[\"a\"]"), 5, 1);
        C.fault("INT of texts", C.ask(0, 5, "m[1]"), 5, 1);
        C.fault("STRING of numbers", C.ask(0, 5, "me[\"1\"]"), 5, 2);
        C.fault("2 of the token behind [ first", C.ask(0, 5, "i[x]"), 2, 2);
        C.fault("1, too", C.ask(0, 5, "i[$"), 1, 2);
        C.fault("a key beyond", C.ask(0, 5, "me[2147483648]"), 7, 3);
        C.fault("a key no UTF-8", C.ask(0, 5, "m[\"\\xff\"]"), 7, 2);
        C.fault("no ]", C.ask(0, 5, "l[1"), 2, 3);
        C.fault("more", C.ask(0, 5, "i = 1"), 2, 2);
        C.tape("i");
        Check.due("no such message", C.house.ask(12, 0), Check.BAD);
        Check.due("no row", C.house.ask(0, 8), Check.BAD);
        Check.due("none there", C.house.ask(9, 0), Check.NO);
        Check.due("the tape stays", C.house.net(4), 1);
        Check.due("and is empty then", C.house.ask(0, 0) + C.house.net(4), 1);
    }
}
