/**
 * Section 3 of the document: what messages have, are told and PRINTED as, and each fault with its place.
 * A ^ in a text stands ahead of the token of the fault; it is taken out.
 */
public final class Edges03Messages {
    private static final String SCHEMA = "enum E { B = 7; A = 0; C = -32768; D = 32767; } record N { } record R { bool b @ 1; int i @ 2; uint u @ 3; zint z @ 4; fix f @ 5; long j @ 6; ulong w @ 7; zlong y @ 8; fixlong g @ 9; text t @ 10; bytes s @ 11; E e @ 12; R r @ 13; maybe int mi @ 14; maybe text mt @ 15; many int li @ 16; many R lr @ 17; map<int, R> mr @ 18; map<text, text> tt @ 19; one o { int oi @ 20; text ot @ 21; N on @ 22; R or @ 23; } many text lt @ 24; }";
    private static Check c;

    public static void main(String[] args) {
        noMessage();
        defaults();
        defaultsTold();
        there();
        oneOfAOne();
        keysInOrder();
        mostValues();
        mostBytes();
        mostDeep();
        beginning();
        commas();
        names();
        twice();
        kinds();
        numbersOfKinds();
        keysOfKinds();
        whatBeginsNoValue();
        deepAndLarge();
        allOfThem();
        messageStays();
        printed();
        Check.end();
    }

    private static void begin() {
        c = new Check();
        c.schema(0, SCHEMA);
        c.read(0, 0, "R{i:77}");
    }

    /** Long texts have a house of their own, which has 512 calls. */
    private static void renewed(String text) {
        if (text.length() > 400) {
            begin();
        }
    }

    private static void wrong(int fault, String marked) {
        renewed(marked);
        c.fault(marked, c.read(0, 0, marked.replace("^", "")), fault, marked.indexOf('^'));
    }

    private static void good(String text, int values, String due) {
        renewed(text);
        Check.due(text, c.read(0, 1, text), values);
        Check.due("VALUES of " + text, c.house.told(1, 2), values);
        c.printed(text, 1, due);
    }

    private static void noMessage() {
        begin();
        Check.due("message 11 is the last", c.read(0, 11, "R{}"), 0);
        Check.due("message 12 is none", c.house.told(12, 0), Check.BAD);
        Check.due("of no message", c.house.told(5, 0), Check.NO);
        Check.due("message 12 is not read", c.read(0, 12, "R{}"), Check.BAD);
        Check.due("nor -1", c.house.read(0, -1), Check.BAD);
        Check.due("the tape stays", c.house.net(4), 3);
    }

    private static long number(String path) {
        Check.due(path, c.ask(1, 0, path), 1);
        return c.house.number();
    }

    private static void defaults() {
        begin();
        good("R{}", 0, "R{}");
        for (String f : "b i u z f j w y g".split(" ")) {
            Check.due("0 or false at first: " + f, number(f), 0);
        }
        Check.due("the first constant at first", number("e"), 7);
        Check.due("no bytes at first", c.ask(1, 0, "t"), 2);
        Check.due("none", c.house.number(), 0);
        for (String f : "r mi mt oi ot on or".split(" ")) {
            Check.due("not there at first: " + f, c.ask(1, 0, f), 0);
        }
        for (String f : "li lr lt".split(" ")) {
            Check.due("MANY: " + f, c.ask(1, 0, f), 4);
        }
        Check.due("a MAP", c.ask(1, 0, "mr"), 5);
        good("R{b:false,i:0,u:0,z:0,f:0,j:0,w:0,y:0,g:0,t:\"\",s:\"\",e:B,li:[],lr:[],mr:<>,tt:<>,lt:[]}", 0, "R{}");
        good("R{e:7}", 0, "R{}");
        good("R{e:A}", 1, "R{e:A}");
        good("R{e:00}", 1, "R{e:A}");
    }

    private static void defaultsTold() {
        begin();
        c.schema(0, "enum E { A = 1; B = 2; } record R { bool b @ 1 = true; int i @ 2 = -5; ulong w @ 3 = 9223372036854775807; E e @ 4 = 9; E d @ 5 = B; text t @ 6 = \"\\xc3\\xa9\"; bytes s @ 7 = \"\\xff\"; }");
        good("R{}", 0, "R{}");
        good("R{b:true,i:-5,w:9223372036854775807,e:9,d:B,t:\"\\xc3\\xa9\",s:\"\\xff\"}", 0, "R{}");
        good("R{b:false,i:0,w:0,e:A,d:A,t:\"\",s:\"\"}", 7, "R{b:false,i:0,w:0,e:A,d:A,t:\"\",s:\"\"}");
        Check.due("an empty text has no BYTES", c.house.told(1, 3), 0);
        good("R{t:\"\\xc3\\xa8\",s:\"\\xff\\xff\"}", 2, "R{t:\"\\xc3\\xa8\",s:\"\\xff\\xff\"}");
        Check.due("BYTES of what is set", c.house.told(1, 3), 4);
    }

    private static void there() {
        begin();
        good("R{mi:0}", 1, "R{mi:0}");
        good("R{mt:\"\"}", 1, "R{mt:\"\"}");
        good("R{r:{}}", 1, "R{r:{}}");
        good("R{oi:0}", 1, "R{oi:0}");
        good("R{ot:\"\"}", 1, "R{ot:\"\"}");
        good("R{on:{}}", 1, "R{on:{}}");
        good("R{r:{i:0,e:B}}", 1, "R{r:{}}");
        good("R{li:[0]}", 2, "R{li:[0]}");
        good("R{lt:[\"\"]}", 2, "R{lt:[\"\"]}");
        good("R{lr:[{}]}", 2, "R{lr:[{}]}");
        good("R{tt:<\"\":\"\">}", 3, "R{tt:<\"\":\"\">}");
        good("R{mr:<0:{}>}", 3, "R{mr:<0:{}>}");
    }

    private static void oneOfAOne() {
        begin();
        wrong(4, "R{oi:1,^ot:\"\"}");
        wrong(4, "R{on:{},i:5,^or:{}}");
        wrong(4, "R{oi:1,^oi:2}");
        wrong(4, "R{oi:1,^ot?");
        good("R{r:{oi:1},ot:\"\"}", 3, "R{r:{oi:1},ot:\"\"}");
        good("R{or:{or:{}}}", 2, "R{or:{or:{}}}");
        c.schema(0, "record R { int i @ 1; one o { int a @ 2; int b @ 3; } one p { int c @ 4; int d @ 5; } one q { int e @ 6; int f @ 7; } }");
        good("R{f:1,d:2,b:3}", 3, "R{b:3,d:2,f:1}");
        good("R{a:1,c:2,e:3}", 3, "R{a:1,c:2,e:3}");
        wrong(4, "R{a:1,^b:1}");
        wrong(4, "R{a:1,c:1,^d:1}");
        wrong(4, "R{a:1,c:1,e:1,^f:1}");
        wrong(4, "R{d:1,b:1,f:1,^c:1}");
        wrong(4, "R{f:1,i:1,^e:1}");
    }

    private static void keysInOrder() {
        begin();
        good("R{mr:<5:{},-1:{},0:{},-2147483648:{},2147483647:{}>}", 11, "R{mr:<-2147483648:{},-1:{},0:{},5:{},2147483647:{}>}");
        good("R{tt:<\"b\":\"1\",\"\\xc3\\xa9\":\"2\",\"\":\"3\",\"ba\":\"4\",\"a\":\"5\",\"\\x00\":\"6\",\"\\x7f\":\"7\">}", 15,
            "R{tt:<\"\":\"3\",\"\\x00\":\"6\",\"a\":\"5\",\"b\":\"1\",\"ba\":\"4\",\"\\x7f\":\"7\",\"\\xc3\\xa9\":\"2\">}");
        Check.due("BYTES of keys and items", c.house.told(1, 3), 0 + 1 + 1 + 1 + 2 + 1 + 2 + 7);
        good("R{tt:<\"abd\":\"1\",\"abc\":\"2\",\"abb\":\"3\",\"ab\":\"4\",\"aac\":\"5\",\"abca\":\"6\",\"b\":\"7\",\"c\":\"8\">}", 17,
            "R{tt:<\"aac\":\"5\",\"ab\":\"4\",\"abb\":\"3\",\"abc\":\"2\",\"abca\":\"6\",\"abd\":\"1\",\"b\":\"7\",\"c\":\"8\">}");
        good("R{tt:<\"c\":\"1\",\"b\":\"2\",\"xc\":\"3\",\"xb\":\"4\",\"x\\xc3\\xa9\":\"5\",\"x\\x7f\":\"6\">}", 13,
            "R{tt:<\"b\":\"2\",\"c\":\"1\",\"xb\":\"4\",\"xc\":\"3\",\"x\\x7f\":\"6\",\"x\\xc3\\xa9\":\"5\">}");
        c.schema(0, "record R { map<ulong, int> m @ 1; map<long, int> l @ 2; }");
        good("R{m:<9223372036854775807:1,0:2>,l:<1:1,-1:2,0:3>}", 12, "R{m:<0:2,9223372036854775807:1>,l:<-1:2,0:3,1:1>}");
    }

    private static void mostValues() {
        begin();
        String most = "li:[0" + Check.times(",0", 397) + "]";
        good("R{" + most + "}", 399, "R{" + most + "}");
        good("R{i:1," + most + "}", 400, "R{i:1," + most + "}");
        good("R{i:0,e:7," + most + "}", 399, "R{" + most + "}");
        good("R{mi:0," + most + "}", 400, "R{mi:0," + most + "}");
        wrong(3, "^R{mi:0,i:1," + most + "}");
        wrong(3, "^R{tt:<\"\":\"\">,li:[0" + Check.times(",0", 396) + "]}");
        good("R{tt:<\"\":\"\">,li:[0" + Check.times(",0", 395) + "]}", 400, "R{li:[0" + Check.times(",0", 395) + "],tt:<\"\":\"\">}");
        good("R{lr:[{}" + Check.times(",{}", 398) + "]}", 400, "R{lr:[{}" + Check.times(",{}", 398) + "]}");
        wrong(3, "^R{lr:[{}" + Check.times(",{}", 399) + "]}");
        StringBuilder map = new StringBuilder("mr:<0:{}");
        for (int i = 1; i < 199; i++) {
            map.append(",").append(i).append(":{}");
        }
        good("R{" + map + ">}", 399, "R{" + map + ">}");
        good("R{i:1," + map + ">}", 400, "R{i:1," + map + ">}");
        wrong(3, "^R{" + map + ",199:{}>}");
        // what is within records counts, too
        good("R{lr:[{i:1},{" + "li:[0" + Check.times(",0", 394) + "]}]}", 400, "R{lr:[{i:1},{" + "li:[0" + Check.times(",0", 394) + "]}]}");
        wrong(3, "^R{lr:[{i:1},{" + "li:[0" + Check.times(",0", 395) + "]}]}");
        begin();
        String stranger = Check.times("f80c00", 400);
        c.load(0, stranger);
        Check.due("400 unknown fields", c.house.decode(0, 2, 0, 0, 1), 400);
        c.load(0, stranger + "f80c00");
        c.fault("401 unknown fields", c.house.decode(0, 2, 0, 0, 1), 7, 0);
    }

    private static void mostBytes() {
        begin();
        String sixty = "\"" + Check.times("x", 60) + "\"";
        String most = "lt:[" + sixty + Check.times("," + sixty, 32);
        good("R{" + most + ",\"" + Check.times("y", 20) + "\"]}", 35, "R{" + most + ",\"" + Check.times("y", 20) + "\"]}");
        Check.due("2000 BYTES", c.house.told(1, 3), 2000);
        wrong(3, "^R{" + most + ",\"" + Check.times("y", 21) + "\"]}");
        wrong(3, "^R{s:\"z\"," + most + ",\"" + Check.times("y", 20) + "\"]}");
        wrong(3, "^R{tt:<\"z\":\"\">," + most + ",\"" + Check.times("y", 20) + "\"]}");
        wrong(3, "^R{tt:<\"\":\"z\">," + most + ",\"" + Check.times("y", 20) + "\"]}");
        wrong(3, "^R{ot:\"z\"," + most + ",\"" + Check.times("y", 20) + "\"]}");
        wrong(3, "^R{mt:\"z\"," + most + ",\"" + Check.times("y", 20) + "\"]}");
        wrong(3, "^R{r:{t:\"z\"}," + most + ",\"" + Check.times("y", 20) + "\"]}");
        good("R{tt:<\"\":\"\">," + most + "]}", 37, "R{tt:<\"\":\"\">," + most + "]}");
        Check.due("BYTES", c.house.told(1, 3), 1980);
        c = new Check();
        c.schema(0, SCHEMA);
        c.load(0, "5ad00f" + Check.times("00", 2000));
        Check.due("a field of 2000 bytes", c.house.decode(0, 2, 0, 0, 1), 1);
        c.load(0, "5ad10f" + Check.times("00", 2001));
        c.fault("of 2001", c.house.decode(0, 2, 0, 0, 1), 7, 0);
        c.load(0, "fa0cce0f" + Check.times("00", 1998));
        Check.due("an unknown field of 1998 and the two that tell it", c.house.decode(0, 2, 0, 0, 1), 1);
        Check.due("BYTES", c.house.told(1, 3), 2000);
        c.load(0, "fa0ccf0f" + Check.times("00", 1999));
        c.fault("of 1999", c.house.decode(0, 2, 0, 0, 1), 7, 0);
    }

    private static void mostDeep() {
        begin();
        String[] ways = {"r:", "or:", "lr:[", "mr:<0:"};
        String[] ends = {"", "", "]", ">"};
        for (int i = 0; i < 4; i++) {
            String eleven = Check.times("{" + ways[i], 11);
            String close = Check.times(ends[i] + "}", 11);
            Check.due("12 records by " + ways[i], c.read(0, 1, "R" + eleven + "{}" + close), 11 * (i == 2 ? 2 : i == 3 ? 3 : 1));
            Check.due("are 12 deep", c.house.told(1, 4), 12);
            wrong(3, "R" + eleven + "{" + ways[i] + "^{}" + ends[i] + "}" + close);
            wrong(3, "R" + eleven + "{" + ways[i] + "^{ ?");
            wrong(2, "R" + eleven + "{" + ways[i] + "^)");
            wrong(7, "R" + eleven + "{" + ways[i] + "^\"\"");
            good("R" + eleven + "{i:1}" + close, 11 * (i == 2 ? 2 : i == 3 ? 3 : 1) + 1, "R" + eleven + "{i:1}" + close);
        }
        good("R{}", 0, "R{}");
        Check.due("itself the first", c.house.told(1, 4), 1);
        good("R{li:[1]}", 2, "R{li:[1]}");
        Check.due("lists are no records", c.house.told(1, 4), 1);
        good("R{lr:[]}", 0, "R{}");
        Check.due("no items are none", c.house.told(1, 4), 1);
        good("R{lr:[{}],r:{r:{}}}", 4, "R{r:{r:{}},lr:[{}]}");
        Check.due("the deepest counts", c.house.told(1, 4), 3);
    }

    private static void beginning() {
        begin();
        wrong(2, "^");
        wrong(2, "^{}");
        wrong(2, "^1");
        wrong(2, "^true {}");
        wrong(2, "^record {}");
        wrong(5, "^X{}");
        wrong(5, "^E{}");
        wrong(5, "^S{}");
        wrong(5, "^X ?");
        wrong(2, "R^");
        wrong(2, "R ^record");
        wrong(2, "R ^}");
        wrong(2, "R ^]");
        wrong(2, "R ^>");
        wrong(2, "R ^:");
        wrong(2, "R ^=");
        wrong(7, "R ^[]");
        wrong(7, "R ^<>");
        wrong(7, "R ^-1");
        wrong(7, "R ^- ?");
        wrong(7, "R ^1");
        wrong(7, "R ^true");
        wrong(7, "R ^false");
        wrong(7, "R ^\"\"");
        wrong(7, "R ^R");
        wrong(1, "R ^?");
        wrong(2, "R{} ^R{}");
        wrong(2, "R{}^}");
        wrong(1, "R{}^?");
        c.schema(0, "record R { } service S { }");
        wrong(5, "^S{}");
    }

    private static void commas() {
        begin();
        wrong(2, "R{^,}");
        wrong(2, "R{i:1 ^u:2}");
        wrong(2, "R{i:1,^}");
        wrong(2, "R{i:1,^,u:2}");
        wrong(2, "R{i:1^");
        wrong(2, "R{^");
        wrong(2, "R{i^");
        wrong(2, "R{i^=1}");
        wrong(2, "R{i:^");
        wrong(2, "R{^1:1}");
        wrong(2, "R{^\"i\":1}");
        wrong(2, "R{^int:1}");
        wrong(2, "R{li:[^,]}");
        wrong(2, "R{li:[1,^]}");
        wrong(2, "R{li:[1 ^2]}");
        wrong(2, "R{li:[1^>}");
        wrong(2, "R{li:[1^}");
        wrong(2, "R{li:[^");
        wrong(2, "R{mr:<^,>}");
        wrong(2, "R{mr:<1^>}");
        wrong(2, "R{mr:<1:^>}");
        wrong(2, "R{mr:<1:{} ^2:{}>}");
        wrong(2, "R{mr:<1:{},^>}");
        wrong(2, "R{mr:<1^,{}>}");
        wrong(2, "R{mr:<1:{}^]}");
        wrong(2, "R{mr:<1:{}^");
        // >= is one token
        wrong(2, "R{mr:<1:{}^>=}");
        wrong(2, "R{mr:^<=1:{}>}");
        good("R{li:[],mr:<>,i:1}", 1, "R{i:1}");
    }

    private static void names() {
        begin();
        wrong(5, "R{^x:1}");
        wrong(5, "R{^o:1}");
        wrong(5, "R{^R:1}");
        wrong(5, "R{^x ?");
        wrong(5, "R{on:{^i:1}}");
        wrong(5, "R{e:^X}");
        wrong(5, "R{e:^E}");
        wrong(5, "R{e:^X ?");
        for (String f : "b i u z f j w y g t s r li mr oi".split(" ")) {
            wrong(7, "R{" + f + ":^B}");
        }
        wrong(7, "R{li:[^B]}");
        wrong(7, "R{mr:<^B:{}>}");
        good("R{e:B}", 0, "R{}");
        good("R{e:C,r:{e:D}}", 3, "R{e:C,r:{e:D}}");
    }

    private static void twice() {
        begin();
        wrong(4, "R{i:1,^i:1}");
        wrong(4, "R{i:0,u:1,^i:0}");
        wrong(4, "R{li:[],^li:[]}");
        wrong(4, "R{r:{},^r:{}}");
        wrong(4, "R{i:1,^i?");
        good("R{i:1,r:{i:1},lr:[{i:1},{i:1}]}", 8, "R{i:1,r:{i:1},lr:[{i:1},{i:1}]}");
        wrong(4, "R{mr:<1:{},^1:{}>}");
        wrong(4, "R{mr:<1:{},2:{},^01:{}>}");
        wrong(4, "R{mr:<0:{},^-0:{}>}");
        wrong(4, "R{mr:<-1:{},^- 1:{}>}");
        wrong(4, "R{mr:<-1:{},^-1 ?");
        wrong(4, "R{tt:<\"a\":\"\",^\"\\x61\":\"\">}");
        wrong(4, "R{tt:<\"\":\"\",^\"\":\"\">}");
        good("R{tt:<\"a\":\"\",\"A\":\"\",\"a\\x00\":\"\">}", 7, "R{tt:<\"A\":\"\",\"a\":\"\",\"a\\x00\":\"\">}");
        good("R{r:{mr:<1:{}>},mr:<1:{}>}", 7, "R{r:{mr:<1:{}>},mr:<1:{}>}");
    }

    private static void kinds() {
        begin();
        String[] values = {"1", "-1", "true", "\"1\"", "{}", "[]", "<>", "- x"};
        String[][] wrong = {{"b", "1 -1 \"1\" {} [] <>"}, {"i", "true \"1\" {} [] <>"}, {"j", "false \"1\" {} [] <>"},
            {"t", "1 -1 true {} [] <>"}, {"s", "1 -1 false {} [] <>"}, {"e", "true \"1\" {} [] <>"},
            {"r", "1 -1 true \"1\" [] <>"}, {"li", "1 -1 true \"1\" {} <>"}, {"lr", "1 -1 true \"1\" {} <>"},
            {"mr", "1 -1 true \"1\" {} []"}, {"mi", "true \"1\" {} [] <>"}, {"oi", "true \"1\" {} [] <>"},
            {"or", "1 -1 true \"1\" [] <>"}};
        Check.due("values", values.length, 8);
        for (String[] w : wrong) {
            for (String v : w[1].split(" ")) {
                wrong(7, "R{" + w[0] + ":^" + v + "}");
            }
        }
        begin();
        wrong(7, "R{li:[1,^\"1\"]}");
        wrong(7, "R{li:[^[]]}");
        wrong(7, "R{lt:[\"\",^1]}");
        wrong(7, "R{lr:[^[]]}");
        wrong(7, "R{mr:<1:^1>}");
        wrong(7, "R{tt:<\"\":^{}>}");
        wrong(7, "R{b:^- ?");
        wrong(7, "R{t:^\"\\x80\"}");
        wrong(7, "R{mt:^\"\\xc3\"}");
        wrong(7, "R{ot:^\"\\xff\"}");
        wrong(7, "R{lt:[\"a\",^\"\\xff\"]}");
        wrong(7, "R{tt:<^\"\\xff\":\"\">}");
        wrong(7, "R{tt:<\"\":^\"\\xff\">}");
        good("R{s:\"\\xff\"}", 1, "R{s:\"\\xff\"}");
    }

    private static void numbersOfKinds() {
        begin();
        String[][] within = {{"i", "-2147483648", "2147483647"}, {"z", "-2147483648", "2147483647"},
            {"u", "1", "4294967295"}, {"f", "1", "4294967295"}, {"j", "-9223372036854775807", "9223372036854775807"},
            {"y", "-9223372036854775807", "9223372036854775807"}, {"w", "1", "9223372036854775807"},
            {"g", "1", "9223372036854775807"}, {"e", "-32767", "32766"}, {"mi", "-2147483648", "2147483647"},
            {"oi", "-2147483648", "2147483647"}};
        for (String[] w : within) {
            good("R{" + w[0] + ":" + w[1] + "}", 1, "R{" + w[0] + ":" + w[1] + "}");
            good("R{" + w[0] + ":" + w[2] + "}", 1, "R{" + w[0] + ":" + w[2] + "}");
        }
        begin();
        String[][] beyond = {{"i", "-2147483649", "2147483648"}, {"z", "-2147483649", "2147483648"}, {"u", "-1", "4294967296"},
            {"f", "-1", "4294967296"}, {"w", "-1", "- 9223372036854775807"}, {"g", "-1", "- 9223372036854775807"},
            {"e", "-32769", "32768"}, {"mi", "-2147483649", "2147483648"}, {"oi", "-2147483649", "2147483648"}};
        for (String[] b : beyond) {
            wrong(7, "R{" + b[0] + ":^" + b[1] + "}");
            wrong(7, "R{" + b[0] + ":^" + b[2] + "}");
            wrong(7, "R{" + b[0] + ":^" + b[2] + "?");
        }
        wrong(7, "R{li:[1,^2147483648]}");
        wrong(2, "R{i:-^-1}");
        wrong(2, "R{i:-^\"1\"}");
        wrong(1, "R{i:-^?");
        wrong(1, "R{i:^9223372036854775808}");
        good("R{u:-0,w:-0,i:-0,e:-32768}", 1, "R{e:C}");
        good("R{e:32767}", 1, "R{e:D}");
        good("R{e:1}", 1, "R{e:1}");
    }

    private static void keysOfKinds() {
        begin();
        wrong(7, "R{mr:<^\"1\":{}>}");
        wrong(7, "R{mr:<^true:{}>}");
        wrong(7, "R{mr:<^{}:{}>}");
        wrong(7, "R{mr:<^2147483648:{}>}");
        wrong(7, "R{mr:<^-2147483649:{}>}");
        wrong(2, "R{mr:<^):{}>}");
        wrong(2, "R{mr:<-^x:{}>}");
        wrong(7, "R{tt:<^1:\"\">}");
        wrong(7, "R{tt:<^-1:\"\">}");
        wrong(7, "R{tt:<^B:\"\">}");
        c.schema(0, "record R { map<uint, bool> u @ 1; map<fix, bool> f @ 2; map<ulong, bool> w @ 3; map<fixlong, bool> g @ 4; map<zint, bool> z @ 5; map<zlong, bool> y @ 6; map<long, bool> j @ 7; }");
        for (String f : "u f".split(" ")) {
            good("R{" + f + ":<0:true,4294967295:true>}", 5, "R{" + f + ":<0:true,4294967295:true>}");
            wrong(7, "R{" + f + ":<^4294967296:true>}");
            wrong(7, "R{" + f + ":<^-1:true>}");
        }
        for (String f : "w g".split(" ")) {
            good("R{" + f + ":<0:true,9223372036854775807:true>}", 5, "R{" + f + ":<0:true,9223372036854775807:true>}");
            wrong(7, "R{" + f + ":<^-1:true>}");
        }
        good("R{z:<2147483647:true,-2147483648:true>}", 5, "R{z:<-2147483648:true,2147483647:true>}");
        wrong(7, "R{z:<^2147483648:true>}");
        for (String f : "y j".split(" ")) {
            good("R{" + f + ":<9223372036854775807:true,-9223372036854775807:false>}", 5,
                "R{" + f + ":<-9223372036854775807:false,9223372036854775807:true>}");
        }
    }

    /** A token that begins no v at all is 2. */
    private static void whatBeginsNoValue() {
        begin();
        for (String s : "} ] > ) ( , ; : = @ . + * / % ! == != <= >= in out int record".split(" ")) {
            wrong(2, "R{i:^" + s + "}");
            wrong(2, "R{t:^" + s + "}");
            wrong(2, "R{r:^" + s + "}");
            wrong(2, "R{mr:^" + s + "}");
            if (!s.equals("]")) {
                wrong(2, "R{li:[^" + s + "}");
            }
        }
    }

    private static void deepAndLarge() {
        begin();
        String many = "li:[0" + Check.times(",0", 400) + "]";
        wrong(3, "^R{" + many + "}");
        wrong(2, "R{" + many + "}^}");
        wrong(1, "R{" + many + "}^?");
        wrong(5, "R{" + many + ",^x:1}");
        wrong(7, "R{" + many + ",u:^-1}");
        wrong(4, "R{" + many + ",^li:[]}");
        wrong(3, "R{" + many + ",r:" + Check.times("{r:", 11) + "^{" + Check.times("}", 12) + "}");
        wrong(3, "R" + Check.times("{r:", 12) + "^{ " + many);
        wrong(3, "^ R{" + many + "}");
    }

    /** All schemas, messages, rows: what one is told does not touch another. */
    private static void allOfThem() {
        c = new Check();
        for (int s = 0; s < 4; s++) {
            c.schema(s, "record Z { } record R" + s + " { int x @ 1; }");
        }
        for (int m = 0; m < 12; m++) {
            Check.due("read", c.read(m % 4, m, "R" + m % 4 + "{x:" + (m + 1) + "}"), 1);
        }
        for (int m = 0; m < 12; m++) {
            Check.due("its schema", c.house.told(m, 0), m % 4);
            Check.due("its record", c.house.told(m, 1), 1);
            c.printed("it", m, "R" + m % 4 + "{x:" + (m + 1) + "}");
        }
        for (int row = 0; row < 8; row++) {
            c.house.print(row, row);
        }
        for (int row = 0; row < 8; row++) {
            Check.due("row " + row, c.text(row), "R" + row % 4 + "{x:" + (row + 1) + "}");
        }
        Check.due("copy", c.house.copy(0, 11), 1);
        c.put(11, "x = 7");
        c.printed("apart from what it was copied of", 0, "R0{x:1}");
        c.house.drop(0);
        c.printed("and stays when that goes", 11, "R0{x:7}");
        c.schema(3, "");
        Check.due("those of schema 3 are gone", c.house.told(3, 0) + c.house.told(7, 0), 2 * Check.NO);
        Check.due("11 is of schema 0 now", c.house.told(11, 0), 0);
    }

    private static void messageStays() {
        begin();
        c.read(0, 0, "R{i:77,t:\"x\"}");
        String[] wrong = {"?", "}", "R" + Check.times("{r:", 12) + "{", "R{i:1,i:2}", "X{}", "", "R{i:true}"};
        int[] faults = {1, 2, 3, 4, 5, 2, 7};
        for (int i = 0; i < wrong.length; i++) {
            Check.due(wrong[i], c.read(0, 0, wrong[i]), -10 - faults[i]);
            c.printed("m stays", 0, "R{i:77,t:\"x\"}");
            Check.due("a fault makes no message", c.read(0, 5, wrong[i]), -10 - faults[i]);
            Check.due("there is none", c.house.told(5, 0), Check.NO);
        }
    }

    private static void printed() {
        begin();
        c.load(0, "38ffffffffffffffffff01 49ffffffffffffffff 3080808080808080808001 40ffffffffffffffffff01");
        Check.due("decode", c.house.decode(0, 2, 0, 0, 1), 4);
        c.printed("without sign", 1, "R{j:-9223372036854775808,w:18446744073709551615,y:-9223372036854775808,g:18446744073709551615}");
        c.tape(c.printed(1));
        c.fault("with which a text is not read again", c.house.read(0, 2), 1, 5);
        StringBuilder items = new StringBuilder("\"");
        for (int b = 0; b < 60; b++) {
            items.append(String.format("\\x%02x", new int[] {0, 9, 10, 31, 32, 33, 34, 35, 91, 92, 93, 126, 127, 128, 254, 255}[b % 16]));
        }
        c.read(0, 1, "R{s:" + items + "\"}");
        String due = "\\x00\\x09\\x0a\\x1f !\\\"#[\\\\]~\\x7f\\x80\\xfe\\xff";
        c.printed("ITEMS of STRINGS", 1, "R{s:\"" + due + due + due + due.substring(0, due.indexOf("\\x7f")) + "\"}");
        good("R{e:C,i:-2147483648}", 2, "R{i:-2147483648,e:C}");
        good("R{mr:<-1:{e:A}>,lr:[{},{e:-1}]}", 8, "R{lr:[{},{e:-1}],mr:<-1:{e:A}>}");
        good("R{on:{},b:true}", 2, "R{b:true,on:{}}");
        Check.due("print to row 8", c.house.print(1, 8), Check.BAD);
        Check.due("print of message 12", c.house.print(12, 0), Check.BAD);
        Check.due("BAD ahead of NO", c.house.print(9, -1), Check.BAD);
        Check.due("print of none", c.house.print(9, 0), Check.NO);
    }
}
