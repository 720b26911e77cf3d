/**
 * Section 5 of the document: LINEAR bytes at their edges, and each fault with its place.
 * A ^ in a row's digits stands where the fault is told; it is taken out.
 */
public final class Edges05Linear {
    private static final String TYPES = "enum E { A = 1; B = 7; C = -32768; D = 32767; } record N { } record R { ";
    private static final int R = 2;
    private static Check c;
    private static String parts;

    public static void main(String[] args) {
        numbers();
        bools();
        enums();
        order();
        texts();
        paddings();
        longTexts();
        wrongTexts();
        maybes();
        records();
        lists();
        listsOfRecords();
        mostItems();
        maps();
        keysRise();
        keysWithin();
        ones();
        deep();
        deepOthers();
        behindTheEnd();
        large();
        largeBytes();
        unknownLeftOut();
        notWritten();
        mostWritten();
        stays();
        Check.end();
    }

    /** A house with a record R that has these fields, on its own if rows are long: a house has 512 calls. */
    private static void begin(String fields) {
        parts = fields;
        c = new Check();
        c.schema(0, TYPES + parts + " }");
    }

    private static void load(String hex) {
        if (hex.length() > 600) {
            begin(parts);
        }
        c.load(0, hex);
    }

    private static void good(String hex, int values, String due) {
        load(hex);
        Check.due(hex, c.house.decode(0, R, 1, 0, 1), values);
        Check.due("place() of " + hex, c.house.place(), Check.NO);
        c.printed(hex, 1, due);
        Check.due(hex + " again", c.house.encode(1, 1, 2), c.house.size(0));
        Check.due(hex + " is WRITTEN so", c.house.equal(0, 2), 1);
    }

    private static void bad(String marked, int fault) {
        String digits = marked.replace(" ", "");
        load(digits);
        c.fault(marked, c.house.decode(0, R, 1, 0, 0), fault, digits.indexOf('^') / 2);
    }

    private static void numbers() {
        begin("int i @ 1; uint u @ 2; zint z @ 3; fix f @ 4;");
        good("00000000 00000000 00000000 00000000", 0, "R{}");
        good("ffffffff ffffffff ffffffff ffffffff", 4, "R{i:-1,u:4294967295,z:-1,f:4294967295}");
        good("80000000 80000000 80000000 80000000", 4, "R{i:-2147483648,u:2147483648,z:-2147483648,f:2147483648}");
        good("7fffffff 7fffffff 7fffffff 01020304", 4, "R{i:2147483647,u:2147483647,z:2147483647,f:16909060}");
        bad("^", 1);
        bad("00^", 1);
        bad("00000000^", 1);
        bad("00000000 000000^", 1);
        bad("00000000 00000000 00000000 000000^", 1);
        bad("00000000 00000000 00000000 00000000 ^00", 10);
        begin("long j @ 1; ulong w @ 2; zlong y @ 3; fixlong g @ 4;");
        good(Check.times("ffffffffffffffff", 4), 4, "R{j:-1,w:18446744073709551615,y:-1,g:18446744073709551615}");
        good(Check.times("8000000000000000", 4), 4, "R{j:-9223372036854775808,w:9223372036854775808,y:-9223372036854775808,g:9223372036854775808}");
        good(Check.times("0000000100000000", 4), 4, "R{j:4294967296,w:4294967296,y:4294967296,g:4294967296}");
        bad("00000000^", 1);
        bad("00000000000000^", 1);
        bad(Check.times("0000000000000000", 3) + "00000000000000^", 1);
        bad(Check.times("0000000000000000", 4) + "^00000000", 10);
        begin("");
        good("", 0, "R{}");
        bad("^00", 10);
    }

    private static void bools() {
        begin("bool a @ 1; bool b @ 2 = true;");
        good("00000000 00000000", 1, "R{b:false}");
        good("00000001 00000001", 1, "R{a:true}");
        for (String wrong : "00000002 ffffffff 01000000 00000100 00000101 80000000 80000001".split(" ")) {
            bad("^" + wrong + "00000000", 2);
            bad("00000001 ^" + wrong, 2);
        }
        bad("00000001 000002^", 1);
        bad("^00000002", 2);
    }

    private static void enums() {
        begin("E e @ 1 = B; E f @ 2;");
        good("00000001 00000001", 1, "R{e:A}");
        good("00000007 00000007", 1, "R{f:B}");
        good("ffff8000 00007fff", 2, "R{e:C,f:D}");
        for (String wrong : "00000000 00000002 00000006 00008000 00018000 00010001 00010007 ffff7fff ffff0001 80000001 ffffffff 00007ffe 00070000".split(" ")) {
            bad("^" + wrong + "00000001", 4);
            bad("00000001 ^" + wrong, 4);
        }
        bad("00000001 000000^", 1);
    }

    private static void order() {
        begin("int c @ 9; one o { int d @ 8; int e @ 1; } int a @ 2; keep 3, 4; bool b @ 2000;");
        good("00000001 00000000 00000002 00000001", 3, "R{a:2,c:1,b:true}");
        good("00000001 00000008 00000005 00000002 00000000", 3, "R{a:2,d:5,c:1}");
        good("00000001 00000001 00000005 00000002 00000000", 3, "R{e:5,a:2,c:1}");
    }

    private static void texts() {
        begin("text t @ 1; bytes s @ 2;");
        good("00000000 00000000", 0, "R{}");
        good("00000001 61000000 00000000", 1, "R{t:\"a\"}");
        good("00000002 61620000 00000003 fffefd00", 2, "R{t:\"ab\",s:\"\\xff\\xfe\\xfd\"}");
        good("00000004 61626364 00000005 0000000000000000", 2, "R{t:\"abcd\",s:\"" + Check.times("\\x00", 5) + "\"}");
        bad("000000^", 1);
        bad("00000001^", 1);
        bad("00000001 61^", 1);
        bad("00000001 610000^", 1);
        bad("00000004 616263^", 1);
        bad("00000005 6162636465^", 1);
        bad("00000005 61626364650000^", 1);
        bad("00000000 00000001^", 1);
        bad("00000000 00000002 ffff^", 1);
        bad("00000000 00000002 ffff00^", 1);
        bad("00000000 00000000 ^00000000", 10);
        begin("text t @ 1 = \"abc\"; bytes s @ 2 = \"\\xff\";");
        good("00000003 61626300 00000001 ff000000", 0, "R{}");
        good("00000000 00000000", 2, "R{t:\"\",s:\"\"}");
    }

    private static void paddings() {
        begin("text t @ 1; bytes s @ 2;");
        bad("00000001 61 ^010000 00000000", 3);
        bad("00000001 61 ^ff0000 00000000", 3);
        bad("00000001 61 00 ^0100 00000000", 3);
        bad("00000001 61 0000 ^01 00000000", 3);
        bad("00000001 61 ^010203 00000000", 3);
        bad("00000002 6161 ^8000 00000000", 3);
        bad("00000002 6161 00 ^80 00000000", 3);
        bad("00000003 616161 ^01 00000000", 3);
        bad("00000005 6161616161 00 ^0100 00000000", 3);
        bad("00000000 00000001 ff 0000 ^01", 3);
        bad("00000000 00000002 ffff ^0101", 3);
        bad("00000000 00000003 ffffff ^20", 3);
    }

    private static void longTexts() {
        for (String kind : new String[] {"text", "bytes"}) {
            begin(kind + " t @ 1;");
            for (String many : "00000005 00000100 00001000 01000000 7ffffff8 7ffffffc 7ffffffd 7fffffff 80000000 80000004 fffffff8 fffffffb fffffffc fffffffd ffffffff".split(" ")) {
                bad(many + "61626364^", 1);
                bad(many + "^", 1);
            }
            begin("many " + kind + " t @ 1;");
            bad("00000001 80000000 61626364^", 1);
            begin("maybe " + kind + " t @ 1;");
            bad("00000001 ffffffff 61626364^", 1);
            begin("one o { " + kind + " t @ 1; }");
            bad("00000001 80000000 61626364^", 1);
            begin("map<int, " + kind + "> t @ 1;");
            bad("00000001 00000000 80000000 61626364^", 1);
        }
        begin("map<text, int> t @ 1;");
        bad("00000001 80000000 61626364^", 1);
    }

    private static void wrongTexts() {
        begin("text t @ 1; text u @ 2;");
        for (String wrong : "80000000 c3000000 c0800000 eda08000 f4908080 ff000000".split(" ")) {
            int n = wrong.replaceAll("(00)+$", "").length() / 2;
            bad(String.format("%08x", n) + "^" + wrong + "00000000", 5);
            bad("00000000" + String.format("%08x", n) + "^" + wrong, 5);
        }
        bad("00000002 ^61ff0000 00000000", 5);
        begin("maybe text t @ 1;");
        bad("00000001 00000001 ^ff000000", 5);
        begin("many text t @ 1;");
        bad("00000002 00000001 61000000 00000001 ^ff000000", 5);
        begin("one o { text t @ 1; }");
        bad("00000001 00000001 ^ff000000", 5);
        begin("map<text, int> t @ 1;");
        bad("00000001 00000001 ^ff000000", 5);
        begin("map<int, text> t @ 1;");
        bad("00000001 00000000 00000001 ^ff000000", 5);
    }

    private static void maybes() {
        begin("maybe int i @ 1; maybe text t @ 2; maybe bool b @ 3; maybe E e @ 4;");
        good("00000000 00000000 00000000 00000000", 0, "R{}");
        good("00000001 00000000 00000001 00000000 00000001 00000000 00000001 00000001", 4, "R{i:0,t:\"\",b:false,e:A}");
        bad("^00000002", 2);
        bad("^ffffffff", 2);
        bad("00000000 ^01000000", 2);
        bad("00000000 00000000 ^00000100", 2);
        bad("00000000 00000000 00000001 ^00000002", 2);
        bad("00000000 00000000 00000000 00000001 ^00000000", 4);
        bad("00000001^", 1);
        bad("00000000 00000001^", 1);
        bad("00000000 00000000 00000000 000000^", 1);
        bad("00000000 00000000 00000000 00000000 ^00000000", 10);
    }

    private static void records() {
        begin("N n @ 1; R r @ 2; int i @ 3;");
        good("00000000 00000000 00000000", 0, "R{}");
        good("00000001 00000001 00000000 00000000 00000005 00000006", 4, "R{n:{},r:{i:5},i:6}");
        bad("^00000002", 2);
        bad("00000000 ^00000003", 2);
        bad("00000000 00000001 ^00000002", 2);
        bad("00000001^", 1);
        bad("00000001 00000001^", 1);
        bad("00000000 00000001 00000000 00000000 00000000^", 1);
    }

    private static void lists() {
        begin("many bool b @ 1; many E e @ 2; many fixlong g @ 3; many text t @ 4;");
        good(Check.times("00000000", 4), 0, "R{}");
        good("00000002 00000000 00000001 00000001 ffff8000 00000001 ffffffffffffffff 00000002 00000000 00000001 61000000", 10,
            "R{b:[false,true],e:[C],g:[18446744073709551615],t:[\"\",\"a\"]}");
        bad("00000001^", 1);
        bad("00000002 00000000^", 1);
        bad("00000001 ^00000002", 2);
        bad("00000002 00000001 ^00000002", 2);
        bad("00000000 00000002 00000001 ^00000000", 4);
        bad("00000000 00000000 00000001 00000000000000^", 1);
        bad("00000000 00000000 00000000 00000001 00000001 61 00 ^0100", 3);
        bad("00000000 00000000 00000000^", 1);
    }

    private static void listsOfRecords() {
        begin("many R l @ 1; int i @ 2; many N n @ 3;");
        good("00000000 00000000 00000000", 0, "R{}");
        good("00000000 00000005 00000003", 5, "R{i:5,n:[{},{},{}]}");
        good("00000002 00000000 00000001 00000000 00000000 00000002 00000000 00000003 00000000", 6, "R{l:[{i:1},{i:2}],i:3}");
        bad("00000001^", 1);
        bad("00000001 00000000 00000000 00000000^", 1);
        bad("00000001 00000001 00000000 00000000 00000000 00000000^", 1);
    }

    private static void mostItems() {
        begin("many N n @ 1; many bool b @ 2; map<int, N> m @ 3;");
        good("0000018f 00000000 00000000", 400, "R{n:[{}" + Check.times(",{}", 398) + "]}");
        bad("^00000190 00000000 00000000", 7);
        bad("00000190 00000000 00000000 ^00", 10);
        bad("00000190 00000000 000000^", 1);
        bad("^00000191", 7);
        bad("^00000191 00000000 00000000", 7);
        bad("^7fffffff", 7);
        bad("^80000000", 7);
        bad("^ffffffff", 7);
        bad("^fffffffe 00000000 00000000", 7);
        // with those before it
        bad("00000190 ^00000001", 7);
        bad("00000190 ^80000000", 7);
        bad("00000001 ^00000190", 7);
        bad("00000001 0000018f^", 1);
        bad("0000018f 00000001 00000000 ^00000001", 7);
        bad("0000018e 00000001 00000000 ^00000002", 7);
        bad("0000018e 00000001 00000000 00000001^", 1);
        bad("0000018e 00000001 00000000 ^ffffffff", 7);
        bad("^0000018e 00000001 00000000 00000001 00000000", 7);
        good("00000186 00000001 00000000 00000002 00000000 00000001", 391 + 2 + 5, "R{n:[{}" + Check.times(",{}", 389) + "],b:[false],m:<0:{},1:{}>}");
        // those of a MAP, and within records, too
        begin("map<int, N> m @ 1; many N n @ 2; many R l @ 3;");
        bad("00000001 00000000 ^00000190", 7);
        bad("00000001 00000000 ^ffffffff", 7);
        bad("00000001 00000000 0000018f ^00000001", 7);
        bad("00000000 00000001 00000001 00000000 00000000 ^0000018f", 7);
        bad("00000000 00000001 00000001 00000000 0000018e ^00000001", 7);
        bad("00000000 00000001 00000001 ^0000018f", 7);
        bad("00000000 0000018f 00000001 00000000 ^00000001", 7);
    }

    private static void maps() {
        begin("map<int, bool> i @ 1; map<text, E> t @ 2; map<long, text> x @ 3;");
        good("00000000 00000000 00000000", 0, "R{}");
        good("00000001 00000000 00000000 00000001 00000000 00000001 00000001 0000000000000000 00000000", 9, "R{i:<0:false>,t:<\"\":A>,x:<0:\"\">}");
        good("00000002 80000000 00000001 7fffffff 00000000 00000000 00000002 8000000000000000 00000001 61000000 7fffffffffffffff 00000000", 10,
            "R{i:<-2147483648:true,2147483647:false>,x:<-9223372036854775808:\"a\",9223372036854775807:\"\">}");
        bad("00000001^", 1);
        bad("00000001 00000000^", 1);
        bad("00000002 00000000 00000000^", 1);
        bad("00000001 00000000 ^00000002", 2);
        bad("00000000 00000001 00000001 61 00 ^0100 00000001", 3);
        bad("00000000 00000001 00000001 61000000 ^00000000", 4);
        bad("00000000 00000001 00000001 61000000 000000^", 1);
        bad("00000000 00000000 00000001 0000000000000000 00000001 ^ff000000", 5);
        bad("00000000 00000000 00000001 0000000000000000 00000001 61 ^010000", 3);
    }

    private static void keysRise() {
        String[] kinds = {"int", "uint", "zint", "fix"};
        for (int i = 0; i < 4; i++) {
            begin("map<" + kinds[i] + ", bool> m @ 1;");
            String one = i % 2 == 0 ? "ffffffff" : "00000001";
            String two = i % 2 == 0 ? "00000001" : "ffffffff";
            String last = i % 2 == 0 ? "7fffffff" : "ffffffff";
            good("00000002" + one + "00000000" + two + "00000001", 5, i % 2 == 0 ? "R{m:<-1:false,1:true>}" : "R{m:<1:false,4294967295:true>}");
            bad("00000002" + two + "00000000 ^" + one + "00000000", 9);
            bad("00000002" + one + "00000000 ^" + one + "00000000", 9);
            bad("00000003" + one + "00000000" + two + "00000000 ^" + two + "00000000", 9);
            bad("00000003" + one + "00000000" + two + "00000000 ^" + one + "00000000", 9);
            bad("00000002" + last + "00000000 ^00000000 00000000", 9);
        }
        begin("map<ulong, bool> m @ 1;");
        good("00000002 0000000000000001 00000000 ffffffffffffffff 00000001", 5, "R{m:<1:false,18446744073709551615:true>}");
        bad("00000002 ffffffffffffffff 00000000 ^0000000000000001 00000001", 9);
        bad("00000002 8000000000000000 00000000 ^7fffffffffffffff 00000001", 9);
        begin("map<zlong, bool> m @ 1;");
        bad("00000002 0000000000000001 00000000 ^ffffffffffffffff 00000001", 9);
        bad("00000002 7fffffffffffffff 00000000 ^8000000000000000 00000001", 9);
        begin("map<text, bool> m @ 1;");
        good("00000004 00000000 00000000 00000001 61000000 00000000 00000002 61000000 00000000 00000002 c3a90000 00000000", 9,
            "R{m:<\"\":false,\"a\":false,\"a\\x00\":false,\"\\xc3\\xa9\":false>}");
        bad("00000002 00000000 00000000 ^00000000 00000000", 9);
        bad("00000002 00000001 61000000 00000000 ^00000000 00000000", 9);
        bad("00000002 00000001 61000000 00000000 ^00000001 61000000 00000000", 9);
        bad("00000002 00000002 61000000 00000000 ^00000001 61000000 00000000", 9);
        bad("00000002 00000001 62000000 00000000 ^00000002 61620000 00000000", 9);
        bad("00000002 00000002 c3a90000 00000000 ^00000001 7f000000 00000000", 9);
        good("00000002 00000003 78616300 00000000 00000002 78620000 00000000", 5, "R{m:<\"xac\":false,\"xb\":false>}");
        bad("00000002 00000002 78620000 00000000 ^00000003 78616300 00000000", 9);
        good("00000002 00000002 78620000 00000000 00000002 78630000 00000000", 5, "R{m:<\"xb\":false,\"xc\":false>}");
        bad("00000002 00000002 78630000 00000000 ^00000002 78620000 00000000", 9);
        bad("00000002 00000002 78620000 00000000 ^00000002 78620000 00000000", 9);
    }

    /** A key's place is looked at behind what is wrong within it, ahead of its item. */
    private static void keysWithin() {
        begin("map<text, bool> m @ 1;");
        bad("00000002 00000001 62000000 00000000 00000001 ^ff000000 00000000", 5);
        bad("00000002 00000001 62000000 00000000 00000001 61 00 ^0100 00000000", 3);
        bad("00000002 00000001 62000000 00000000 00000001 610000^", 1);
        bad("00000002 00000001 62000000 00000000 00000001 61^", 1);
        bad("00000002 00000001 62000000 00000000 00000002^", 1);
        bad("00000002 00000001 62000000 00000000 000000^", 1);
        bad("00000002 00000001 62000000 00000000 ^00000001 61000000 00000002", 9);
        bad("00000002 00000001 62000000 00000000 ^00000001 61000000", 9);
        bad("00000002 00000001 62000000 ^00000002 00000001 61000000 00000000", 2);
        begin("map<int, bool> m @ 1;");
        bad("00000002 00000001 00000000 000000^", 1);
        bad("00000002 00000001 00000000 ^00000001", 9);
        bad("00000002 00000001 00000000 ^00000001 00000002", 9);
        bad("00000001 00000001 ^00000002 00", 2);
        // other MAPS, and the one of another record, begin anew
        begin("map<int, R> m @ 1; map<int, bool> k @ 2;");
        good("00000002 00000001 00000001 00000001 00000000 00000000 00000000 00000002 00000001 00000000 00000000 00000000 00000000 00000000", 11,
            "R{m:<1:{m:<1:{}>},2:{m:<0:{}>}>}");
    }

    private static void ones() {
        begin("one o { int i @ 9; text t @ 3; R r @ 4; N n @ 2000; E e @ 1; bool b @ 2; } int a @ 5; one p { int j @ 6; }");
        String rest = "00000000 00000000";
        good("00000000" + rest, 0, "R{}");
        good("00000009 00000000" + rest, 1, "R{i:0}");
        good("00000003 00000000" + rest, 1, "R{t:\"\"}");
        good("00000004 00000000" + rest + rest, 1, "R{r:{}}");
        good("000007d0" + rest, 1, "R{n:{}}");
        good("00000001 00007fff" + rest, 1, "R{e:D}");
        good("00000002 00000001" + rest, 1, "R{b:true}");
        good("00000000 00000000 00000006 ffffffff", 1, "R{j:-1}");
        for (String wrong : "00000005 00000006 00000007 0000000a 000007cf 000007d1 00010009 01000000 80000009 ffffffff".split(" ")) {
            bad("^" + wrong + rest, 8);
        }
        bad("00000000 00000000 ^00000009", 8);
        bad("000000^", 1);
        bad("00000009^", 1);
        bad("00000009 000000^", 1);
        bad("00000003 00000001 61 ^010000" + rest, 3);
        bad("00000003 00000001 ^ff000000" + rest, 5);
        bad("00000001 ^00000000" + rest, 4);
        bad("00000002 ^00000002" + rest, 2);
        bad("00000004 ^00000005" + rest, 8);
        bad("000007d0 00000000^", 1);
    }

    private static void deep() {
        begin("R r @ 1;");
        good(Check.times("00000001", 11) + "00000000", 11, "R" + Check.times("{r:", 11) + "{}" + Check.times("}", 11));
        Check.due("12 deep", c.house.told(1, 4), 12);
        bad(Check.times("00000001", 12) + "^00000000", 6);
        bad(Check.times("00000001", 12) + "^", 6);
        bad(Check.times("00000001", 12) + "^00000002", 6);
        bad(Check.times("00000001", 11) + "^00000002", 2);
        bad(Check.times("00000001", 11) + "^", 1);
        begin("one o { R r @ 7; }");
        good(Check.times("00000007", 11) + "00000000", 11, "R" + Check.times("{r:", 11) + "{}" + Check.times("}", 11));
        bad(Check.times("00000007", 12) + "^00000000", 6);
        bad(Check.times("00000007", 11) + "^00000001", 8);
        begin("many R l @ 1;");
        good(Check.times("00000001", 11) + "00000000", 22, "R" + Check.times("{l:[", 11) + "{}" + Check.times("]}", 11));
        bad(Check.times("00000001", 12) + "^00000000", 6);
        bad(Check.times("00000001", 11) + "^00000191", 7);
        bad(Check.times("00000001", 11) + "00000002 ^00000000 00000000", 6);
    }

    private static void deepOthers() {
        begin("map<int, R> m @ 1;");
        good(Check.times("00000001 00000005", 11) + "00000000", 33, "R" + Check.times("{m:<5:", 11) + "{}" + Check.times(">}", 11));
        bad(Check.times("00000001 00000005", 12) + "^00000000", 6);
        bad(Check.times("00000001 00000005", 11) + "00000001^", 1);
        begin("map<text, R> m @ 1;");
        bad(Check.times("00000001 00000001 61000000", 12) + "^00000000", 6);
        bad(Check.times("00000001 00000001 61000000", 11) + "00000001 00000001 ^ff000000", 5);
        // a record without bytes has its first byte, too, where it would stand
        begin("R r @ 1; N n @ 2; many N l @ 3; map<int, N> m @ 4; one o { N k @ 5; }");
        String eleven = Check.times("00000001", 11);
        bad(eleven + "00000000 00000001 ^00000000", 6);
        bad(eleven + "00000000 00000001 ^", 6);
        bad(eleven + "00000000 00000000 00000001 ^", 6);
        bad(eleven + "00000000 00000000 00000000 00000001 00000000 ^", 6);
        bad(eleven + "00000000 00000000 00000000 00000000 00000005 ^", 6);
        bad(eleven + "00000000 00000000 00000000 00000000 00000000^", 1);
        good(eleven + Check.times("00000000", 5) + Check.times("00000000", 4 * 11), 11, "R" + Check.times("{r:", 11) + "{}" + Check.times("}", 11));
    }

    private static void behindTheEnd() {
        begin("text t @ 1; many N n @ 2;");
        bad("00000000 00000000 ^00", 10);
        bad("00000000 00000000 ^ffffffff", 10);
        bad("00000001 61000000 00000000 ^00000000", 10);
        // ahead of LARGE, which is behind all
        bad("00000000 00000190 ^00", 10);
        bad("^00000000 00000190", 7);
        bad("00000000 0000018f ^" + Check.times("00", 3992), 10);
    }

    private static void large() {
        begin("many int l @ 1; map<int, int> m @ 2; maybe int a @ 3; R r @ 4;");
        String rest = "00000000 00000000 00000000";
        good("0000018f" + Check.times("00000005", 399) + rest, 400, "R{l:[5" + Check.times(",5", 398) + "]}");
        bad("^00000190" + Check.times("00000005", 400) + rest, 7);
        bad("^0000018f" + Check.times("00000005", 399) + "00000000 00000001 00000000 00000000", 7);
        good("0000018e" + Check.times("00000005", 398) + "00000000 00000001 00000000 00000000", 400, "R{l:[5" + Check.times(",5", 397) + "],a:0}");
        bad("^0000018c" + Check.times("00000005", 396) + "00000001 00000000 00000000 00000000 00000001 00000000" + rest, 7);
        good("0000018c" + Check.times("00000005", 396) + "00000001 00000000 00000000 00000000 00000000", 400, "R{l:[5" + Check.times(",5", 395) + "],m:<0:0>}");
        bad("0000018f" + Check.times("00000005", 399) + "00000000 00000001 00000000 ^00000002", 2);
        bad("0000018f" + Check.times("00000005", 399) + "00000000 00000001 00000000 00000000 ^00", 10);
    }

    private static void largeBytes() {
        begin("bytes s @ 1; text t @ 2 = \"abc\"; map<text, text> m @ 3; one o { text u @ 4; }");
        String most = "000007d0" + Check.times("41", 2000);
        good(most + "00000003 61626300 00000000 00000000", 1, "R{s:\"" + Check.times("A", 2000) + "\"}");
        Check.due("2000 BYTES", c.house.told(1, 3), 2000);
        bad("^000007d1" + Check.times("41", 2001) + "000000 00000003 61626300 00000000 00000000", 7);
        bad("^" + most + "00000001 61000000 00000000 00000000", 7);
        good(most + "00000000 00000000 00000000", 2, "R{s:\"" + Check.times("A", 2000) + "\",t:\"\"}");
        bad("^" + most + "00000003 61626300 00000001 00000001 61000000 00000000 00000000", 7);
        bad("^" + most + "00000003 61626300 00000001 00000000 00000001 61000000 00000000", 7);
        bad("^" + most + "00000003 61626300 00000000 00000004 00000001 61000000", 7);
        bad(most + "00000001 61000000 00000000 00000000 ^00", 10);
    }

    private static void unknownLeftOut() {
        begin("int i @ 1; R r @ 2;");
        c.load(0, "0805 f80c01 1205 f80c02 0806");
        Check.due("with unknown fields", c.house.decode(0, R, 0, 0, 0), 5);
        Check.due("LINEAR", c.house.encode(0, 1, 1), 16);
        c.bytes("without them", 1, "00000005000000010000000600000000");
        begin("");
        c.load(0, "f80c01");
        c.house.decode(0, R, 0, 0, 0);
        Check.due("an empty row", c.house.encode(0, 1, 1), 0);
    }

    private static void notWritten() {
        begin("E a @ 1; maybe E b @ 2; many E l @ 3; map<int, E> m @ 4; one o { E p @ 5; } R r @ 6; many R k @ 7; map<int, R> q @ 8; many text t @ 9; E z @ 10;");
        c.load(3, "61");
        for (String v : "a:0|a:2|a:-1|b:0|l:[0]|l:[A,B,2]|m:<1:0>|m:<1:A,2:9>|p:0|r:{a:0}|r:{r:{z:0}}|k:[{},{a:2}]|q:<5:{b:2}>|z:3".split("\\|")) {
            c.read(0, 0, "R{" + v + "}");
            Check.due("not WRITTEN: " + v, c.house.encode(0, 1, 3), Check.NO);
        }
        c.row("the row stays", 3, "a");
        c.read(0, 0, "R{a:C,b:D,l:[A,B,C,D],m:<0:A>,p:B,r:{a:B}}");
        Check.due("all have a constant", c.house.encode(0, 1, 3) > 0 ? 1 : 0, 1);
        // NO ahead of FULL, wherever it stands
        begin("E a @ 1; many Q l @ 2; E z @ 3; } record Q { long x @ 1; long y @ 2;");
        for (String v : new String[] {"a:0", "z:0"}) {
            c.read(0, 0, "R{" + v + ",l:[{}" + Check.times(",{}", 397) + "]}");
            Check.due("neither WRITTEN nor room: " + v, c.house.encode(0, 1, 3), Check.NO);
        }
        c.read(0, 0, "R{l:[{}" + Check.times(",{}", 397) + "]}");
        Check.due("no room", c.house.encode(0, 1, 3), Check.FULL);
        Check.due("the row stays without bytes", c.house.size(3), 0);
        StringBuilder wide = new StringBuilder("many Q l @ 1; E z @ 2; } record Q { E e @ 24;");
        for (int i = 1; i < 24; i++) {
            wide.append(" long f").append(i).append(" @ ").append(i).append(";");
        }
        for (String last : new String[] {"z = 0", "l[396].e = 5"}) {
            begin(wide.toString());
            c.read(0, 0, "R{l:[{}" + Check.times(",{}", 396) + "]}");
            Check.due("74 thousand bytes", c.house.encode(0, 1, 3), Check.FULL);
            c.put(0, last);
            Check.due("NO, however much there is ahead of it", c.house.encode(0, 1, 3), Check.NO);
        }
        // a constant's number as DEFAULT that none has
        begin("maybe E b @ 2; E a @ 1 = 5;");
        c.read(0, 0, "R{}");
        Check.due("a DEFAULT that no constant has", c.house.encode(0, 1, 3), Check.NO);
        c.read(0, 0, "R{a:A}");
        Check.due("another value", c.house.encode(0, 1, 3), 8);
        // what is not there is not WRITTEN
        begin("maybe E b @ 2; R r @ 3; many R l @ 4; E a @ 1;");
        c.read(0, 0, "R{}");
        Check.due("nothing there", c.house.encode(0, 1, 3), 16);
    }

    private static void mostWritten() {
        begin("many Q l @ 1; bytes s @ 2; } record Q { long x @ 1; long y @ 2;");
        c.read(0, 0, "R{l:[{}" + Check.times(",{}", 248) + "]}");
        Check.due("3992 bytes", c.house.encode(0, 1, 2), 3992);
        c.put(0, "s = \"a\"");
        Check.due("3996 bytes", c.house.encode(0, 1, 2), 3996);
        c.put(0, "s = \"abcd\"");
        Check.due("3996 bytes with four", c.house.encode(0, 1, 2), 3996);
        c.put(0, "s = \"abcde\"");
        Check.due("4000 bytes", c.house.encode(0, 1, 2), 4000);
        c.put(0, "s = \"abcdefgh\"");
        Check.due("4000 bytes with eight", c.house.encode(0, 1, 2), 4000);
        Check.due("its last byte", c.house.octet(2, 3999), 'h');
        Check.due("READ again", c.house.decode(0, R, 1, 2, 1), 251);
        c.put(0, "s = \"abcdefghi\"");
        Check.due("4004 bytes", c.house.encode(0, 1, 2), Check.FULL);
        Check.due("the row stays", c.house.size(2), 4000);
        Check.due("as it was", c.house.octet(2, 3999), 'h');
    }

    private static void stays() {
        begin("bool b @ 1; int i @ 2;");
        c.read(0, 0, "R{i:77}");
        c.load(0, "00000002 00000000");
        for (int m : new int[] {0, 5}) {
            c.fault("a fault", c.house.decode(0, R, 1, 0, m), 2, 0);
        }
        c.printed("m stays", 0, "R{i:77}");
        Check.due("a fault makes no message", c.house.told(5, 0), Check.NO);
        c.bytes("the row stays", 0, "0000000200000000");
    }
}
