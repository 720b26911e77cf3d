/**
 * Section 7 of the document: paths, what they lead to, PUT, TAKEN AWAY, MERGED, DIFFERENCES.
 * A ^ in a text stands ahead of the token of the fault; it is taken out.
 */
public final class Edges07Paths {
    private static final String SCHEMA = "enum E { B = 7; A = 0; } record N { } record R { bool b @ 1 = true; int i @ 2; uint u @ 3; ulong w @ 4; text t @ 5 = \"d\"; bytes s @ 6; E e @ 7; R r @ 8; maybe int mi @ 9; maybe text mt @ 10; maybe R mr @ 11; many int l @ 12; many R lr @ 13; many text lt @ 14; map<int, R> m @ 15; map<text, int> mt2 @ 16; map<ulong, bool> mw @ 17; one o { int oi @ 18; text ot @ 19; R or @ 20; N on @ 21; } map<long, text> mx @ 22; }";
    private static final int R = 2;
    private static Check c;

    public static void main(String[] args) {
        tokens();
        names();
        behind();
        keys();
        keysBeyond();
        sorts();
        sortsNotThere();
        numberStays();
        wholeLists();
        askRefused();
        putTokens();
        putValues();
        putCreates();
        putItems();
        putKeys();
        putOnes();
        putDeep();
        putDeepOtherwise();
        putLarge();
        putNothing();
        putNothingLarge();
        putRefused();
        takenAway();
        takenNothing();
        notInOrder();
        longPaths();
        removeFaults();
        merged();
        mergedOnes();
        mergedLarge();
        mergeRefused();
        differences();
        differencesWithin();
        lastOfAll();
        pathsKept();
        Check.end();
    }

    private static void begin(String message) {
        c = new Check();
        c.schema(0, SCHEMA);
        Check.due(message, c.read(0, 0, message) >= 0 ? 1 : 0, 1);
    }

    /** The path of ask() and remove() has a fault. */
    private static void wrong(int fault, String marked) {
        c.house.copy(0, 11);
        c.fault("ask " + marked, c.ask(0, 0, marked.replace("^", "")), fault, marked.indexOf('^'));
        c.fault("remove " + marked, c.remove(0, marked.replace("^", "")), fault, marked.indexOf('^'));
        Check.due("m stays", c.house.same(0, 11), 1);
    }

    private static void wrongPut(int fault, String marked) {
        c.house.copy(0, 11);
        c.fault("put " + marked, c.put(0, marked.replace("^", "")), fault, marked.indexOf('^'));
        Check.due("m stays", c.house.same(0, 11), 1);
        Check.due("the tape is empty", c.house.net(4), 0);
    }

    private static void asks(String path, int sort, long number) {
        Check.due(path, c.ask(0, 5, path), sort);
        Check.due("number of " + path, c.house.number(), number);
        Check.due("no fault of " + path, c.house.place(), Check.NO);
    }

    private static void put(String text, int values, String due) {
        Check.due(text, c.put(0, text), values);
        Check.due("no fault of " + text, c.house.place(), Check.NO);
        Check.due("VALUES of " + text, c.house.told(0, 2), values);
        c.printed("printed behind " + text, 0, due);
    }

    private static void nothing(String text) {
        c.ask(0, 0, "i.");
        c.house.copy(0, 11);
        Check.due(text, c.put(0, text), Check.NO);
        Check.due("NO leaves the place", c.house.place(), 1);
        Check.due("m stays", c.house.same(0, 11), 1);
        Check.due("the tape is empty", c.house.net(4), 0);
    }

    private static void tokens() {
        begin("R{l:[1]}");
        wrong(2, "^");
        wrong(2, " # nothing^");
        wrong(2, "^1");
        wrong(2, "^.i");
        wrong(2, "^[0]");
        wrong(2, "^\"i\"");
        wrong(2, "^-i");
        wrong(2, "^in");
        wrong(1, "^?");
        wrong(1, "^abcdefghijklmnopq");
        wrong(2, "r.^");
        wrong(2, "r.^.i");
        wrong(2, "r.^1");
        wrong(2, "r.^[");
        wrong(2, "r.^out");
        wrong(1, "r.^?");
        wrong(2, "l[^");
        wrong(2, "l[^]");
        wrong(2, "l[^i]");
        wrong(2, "l[^true]");
        wrong(2, "l[^[0]]");
        wrong(2, "l[-^");
        wrong(2, "l[-^i]");
        wrong(2, "l[-^-1]");
        wrong(2, "l[-^\"\"]");
        wrong(1, "l[^?");
        wrong(1, "l[-^?");
        wrong(1, "l[^9223372036854775808]");
        wrong(2, "l[0^");
        wrong(2, "l[0^)");
        wrong(2, "l[0^.");
        wrong(1, "l[0^?");
        wrong(2, "i ^i");
        wrong(2, "i ^= 1");
        wrong(2, "i ^]");
        wrong(2, "l[0]^]");
        wrong(1, "i^?");
    }

    private static void names() {
        begin("R{}");
        wrong(5, "^x");
        wrong(5, "^o");
        wrong(5, "^R");
        wrong(5, "^E");
        wrong(5, "^x ?");
        wrong(5, "^x[?");
        wrong(5, "r.^x");
        wrong(5, "r.^o");
        wrong(5, "on.^i");
        wrong(5, "lr[0].^x");
        wrong(5, "m[0].^x");
        wrong(5, "r.r.^x.i");
        wrongPut(5, "^x = 1");
        wrongPut(5, "r.^x = ?");
        wrongPut(5, "on.^i = 1");
    }

    /** What stands behind something that has no such part is 5 at . or [ . */
    private static void behind() {
        begin("R{l:[1],lr:[{}],lt:[\"\"]}");
        for (String field : "b i u w t s e mi mt oi ot l lr lt m mt2 mw mx l[0] lt[0] mt2[\"\"] mw[0] mx[0]".split(" ")) {
            wrong(5, field + "^.i");
        }
        begin("R{l:[1],lr:[{}],lt:[\"\"]}");
        for (String field : "b i u w t s e r mi mt mr oi ot or on l[0] lr[0] lt[0] m[0] mt2[\"\"] mw[0] mx[0]".split(" ")) {
            wrong(5, field + "^[0]");
        }
        begin("R{l:[1]}");
        wrong(5, "i^. ?");
        wrong(5, "i^.");
        wrong(5, "i^[\"\"]");
        // 2 and 1 of the token behind [ come first
        wrong(2, "i[^x");
        wrong(2, "i[^");
        wrong(1, "i[^?");
        wrong(5, "i^[0 ?");
        wrongPut(5, "i^.i = 1");
        wrongPut(5, "i^[0] = ?");
        wrongPut(5, "t^[0] = \"x\"");
        wrongPut(2, "t[^x] = 1");
    }

    private static void keys() {
        begin("R{l:[1],m:<1:{}>,mt2:<\"a\":1>}");
        wrong(5, "l^[\"0\"]");
        wrong(5, "lr^[\"0\"]");
        wrong(5, "m^[\"1\"]");
        wrong(5, "mt2^[1]");
        wrong(5, "mt2^[-1]");
        wrong(5, "mt2^[0 ?");
        wrong(5, "m^[\"\" ?");
        wrong(5, "l^[\"\\xff\"]");
        wrong(5, "m[1].l^[\"0\"]");
        wrongPut(5, "l^[\"0\"] = 1");
        wrongPut(5, "mt2^[1] = 1");
        asks("m[1]", 3, R);
        asks("m[01]", 3, R);
        asks("mt2[\"\\x61\"]", 1, 1);
        asks("mt2[\"A\"]", 0, 0);
    }

    private static void keysBeyond() {
        begin("R{m:<-2147483648:{},2147483647:{}>}");
        asks("m[2147483647]", 3, R);
        asks("m[-2147483648]", 3, R);
        wrong(7, "m[^2147483648]");
        wrong(7, "m[^-2147483649]");
        wrong(7, "m[^- 9223372036854775807]");
        wrong(7, "mw[^-1]");
        asks("mw[-0]", 0, 0);
        asks("mw[9223372036854775807]", 0, 0);
        asks("mx[-9223372036854775807]", 0, 0);
        wrong(7, "mt2[^\"\\xff\"]");
        wrong(7, "mt2[^\"\\xc3\"]");
        wrong(7, "mt2[^\"\\xff\" ?");
        wrong(7, "m[^2147483648 ?");
        wrong(7, "m[0].m[^2147483648]");
        // an item's place may be anything
        asks("l[9223372036854775807]", 0, 0);
        asks("l[-9223372036854775807]", 0, 0);
        asks("l[4294967296]", 0, 0);
        wrongPut(7, "m[^2147483648] = {}");
        wrongPut(7, "mt2[^\"\\xff\"] = ?");
        nothing("l[4294967296] = 1");
    }

    private static void bytes(String path, String due) {
        asks(path, 2, due.length());
        c.row("bytes of " + path, 5, due);
    }

    private static void sorts() {
        begin("R{b:false,i:-5,u:4294967295,w:9223372036854775807,t:\"xyz\",s:\"\\xff\",e:A,r:{},mi:0,mt:\"\",mr:{i:1},l:[4,5],lr:[{},{i:6}],lt:[\"\",\"q\"],m:<5:{i:7}>,mt2:<\"\":8>,mw:<9:true>,on:{},mx:<-1:\"z\">}");
        asks("b", 1, 0);
        asks("i", 1, -5);
        asks("u", 1, 4294967295L);
        asks("w", 1, Long.MAX_VALUE);
        bytes("t", "xyz");
        bytes("s", "\u00ff");
        asks("e", 1, 0);
        asks("r", 3, R);
        asks("on", 3, 1);
        asks("mi", 1, 0);
        bytes("mt", "");
        asks("mr", 3, R);
        asks("mr.i", 1, 1);
        asks("mr.e", 1, 7);
        asks("mr.b", 1, 1);
        bytes("mr.t", "d");
        asks("l", 4, 2);
        asks("l[0]", 1, 4);
        asks("l[1]", 1, 5);
        asks("lr[1]", 3, R);
        asks("lr[1].i", 1, 6);
        bytes("lt[0]", "");
        bytes("lt[1]", "q");
        asks("m", 5, 1);
        asks("m[5].i", 1, 7);
        asks("mt2[\"\"]", 1, 8);
        asks("mw[9]", 1, 1);
        bytes("mx[-1]", "z");
        asks("r.l", 4, 0);
        asks("r.m", 5, 0);
        c.load(5, "20ffffffffffffffffff01");
        c.house.decode(0, R, 0, 5, 0);
        asks("w", 1, -1);
    }

    /** 0: of a record that is not there neither MANY nor MAPS are. */
    private static void sortsNotThere() {
        begin("R{lr:[{}],l:[1]}");
        for (String path : "r mi mt mr oi ot or on r.i r.t r.l r.m r.r mr.l or.i or.m lr[1] lr[-1] lr[1].i lr[1].l m[0] m[0].i m[0].l mt2[\"\"] mx[1] lr[0].r lr[0].r.l l[1] lt[0] r.l[0] r.m[0]".split(" ")) {
            c.load(5, "41");
            asks(path, 0, 0);
            c.row("the row stays", 5, "A");
        }
        asks("l", 4, 1);
        asks("lt", 4, 0);
        asks("m", 5, 0);
        asks("lr[0].l", 4, 0);
        asks("lr[0].mt2", 5, 0);
        // any number of . is fine here
        asks(Check.times("r.", 30) + "i", 0, 0);
        Check.due("remove as well", c.remove(0, Check.times("r.", 30) + "i"), Check.NO);
    }

    private static void numberStays() {
        begin("R{i:-5,t:\"xyz\"}");
        Check.due("before any", c.house.number(), 0);
        asks("i", 1, -5);
        c.tape("i");
        Check.due("ask of none", c.house.ask(5, 0), Check.NO);
        Check.due("number as before", c.house.number(), -5);
        Check.due("ask to no row", c.house.ask(0, 8), Check.BAD);
        Check.due("number as before", c.house.number(), -5);
        c.house.cut(1);
        c.put(0, "i = 6");
        Check.due("put leaves it", c.house.number(), -5);
        c.remove(0, "i");
        c.read(0, 1, "R{}");
        Check.due("so do others", c.house.number(), -5);
        c.ask(0, 0, "i.");
        Check.due("a fault", c.house.number(), 0);
        asks("t", 2, 3);
        c.ask(0, 0, "");
        Check.due("a fault", c.house.number(), 0);
    }

    /** Sort 2 alone brings bytes to the row. */
    private static void wholeLists() {
        begin("R{i:1,t:\"xyz\",l:[1,2],lt:[\"ab\"],r:{}}");
        c.load(5, "4142");
        for (String path : "i l lt m r mi".split(" ")) {
            c.ask(0, 5, path);
            c.row("the row stays with " + path, 5, "AB");
        }
        c.ask(0, 5, "x");
        c.row("with a fault, too", 5, "AB");
        c.ask(0, 5, "t");
        c.row("bytes", 5, "xyz");
        c.ask(0, 5, "s");
        Check.due("no bytes", c.house.size(5), 0);
        c.load(5, "5a" + Check.times("41", 100));
        c.load(6, "32d00f" + Check.times("42", 2000));
        Check.due("2000 bytes", c.house.decode(0, R, 0, 6, 1), 1);
        Check.due("asked", c.ask(1, 5, "s"), 2);
        Check.due("all of them", c.house.size(5), 2000);
        Check.due("told", c.house.number(), 2000);
    }

    private static void askRefused() {
        begin("R{i:1}");
        c.tape("i");
        int[][] bad = {{-1, 0}, {12, 0}, {0, -1}, {0, 8}, {5, 8}, {12, 8}};
        for (int[] b : bad) {
            Check.due("BAD", c.house.ask(b[0], b[1]), Check.BAD);
        }
        Check.due("NO", c.house.ask(11, 7), Check.NO);
        Check.due("the tape stays", c.house.net(4), 1);
        Check.due("then", c.house.ask(0, 7), 1);
        Check.due("the tape is empty", c.house.net(4), 0);
        c.tape("x");
        c.house.ask(0, 7);
        Check.due("with a fault, too", c.house.net(4), 0);
    }

    private static void putTokens() {
        begin("R{}");
        wrongPut(2, "^");
        wrongPut(2, "i^");
        wrongPut(2, "i ^1");
        wrongPut(2, "i ^== 1");
        wrongPut(2, "i ^: 1");
        wrongPut(2, "i =^");
        wrongPut(2, "i = ^]");
        wrongPut(2, "i = ^in");
        wrongPut(1, "i = ^?");
        wrongPut(2, "i = -^");
        wrongPut(2, "i = -^x");
        wrongPut(2, "i = 1 ^1");
        wrongPut(2, "i = 1^;");
        wrongPut(1, "i = 1^?");
        wrongPut(2, "l = [1^");
        wrongPut(2, "l = [1]^]");
        wrongPut(2, "m = <1 ^{}>");
        wrongPut(2, "r = {^");
        wrongPut(2, "r = {}^}");
        wrongPut(2, "mx[1 ^= \"\"");
    }

    private static void putValues() {
        begin("R{}");
        wrongPut(7, "i = ^true");
        wrongPut(7, "i = ^2147483648");
        wrongPut(7, "i = ^-2147483649");
        wrongPut(7, "u = ^-1");
        wrongPut(7, "b = ^1");
        wrongPut(7, "t = ^1");
        wrongPut(7, "t = ^\"\\xff\"");
        wrongPut(5, "e = ^C");
        wrongPut(7, "i = ^B");
        wrongPut(7, "e = ^32768");
        wrongPut(7, "r = ^[]");
        wrongPut(7, "r = ^R");
        wrongPut(7, "l = ^1");
        wrongPut(7, "l[0] = ^[1]");
        wrongPut(7, "m = ^{}");
        wrongPut(7, "m[0] = ^<>");
        wrongPut(7, "mt2[\"\"] = ^\"\"");
        wrongPut(7, "lt[0] = ^1");
        wrongPut(4, "r = {i:1,^i:1}");
        wrongPut(4, "r = {oi:1,^ot:\"\"}");
        wrongPut(4, "m = <1:{},^1:{}>");
        wrongPut(5, "r = {^o:1}");
        put("b = false", 1, "R{b:false}");
        put("b = true", 0, "R{}");
        put("i = -2147483648", 1, "R{i:-2147483648}");
        put("u = 4294967295", 2, "R{i:-2147483648,u:4294967295}");
        put("i = 0", 1, "R{u:4294967295}");
        put("u = -0", 0, "R{}");
        put("e = A", 1, "R{e:A}");
        put("e = 7", 0, "R{}");
        put("t = \"d\"", 0, "R{}");
        put("t = \"\"", 1, "R{t:\"\"}");
        put("mi = 0", 2, "R{t:\"\",mi:0}");
        put("s = \"\\xff\"", 3, "R{t:\"\",s:\"\\xff\",mi:0}");
    }

    private static void putCreates() {
        begin("R{}");
        put("r.i = 0", 1, "R{r:{}}");
        put("r.r.r.i = 5", 4, "R{r:{r:{r:{i:5}}}}");
        put("mr.i = 0", 5, "R{r:{r:{r:{i:5}}},mr:{}}");
        put("r = {}", 2, "R{r:{},mr:{}}");
        put("mr = {i:1}", 3, "R{r:{},mr:{i:1}}");
        put("mr = {u:2}", 3, "R{r:{},mr:{u:2}}");
        put("mr.i = 3", 4, "R{r:{},mr:{i:3,u:2}}");
        // what is refused has brought no record
        begin("R{}");
        wrongPut(7, "r.r.i = ^true");
        wrongPut(5, "r.r.^x = 1");
        wrongPut(2, "r.i = 1 ^1");
        nothing("r.l[1] = 1");
        Check.due("no VALUES", c.house.told(0, 2), 0);
    }

    private static void putItems() {
        begin("R{}");
        nothing("l[1] = 5");
        nothing("l[-1] = 5");
        put("l[0] = 5", 2, "R{l:[5]}");
        put("l[1] = 6", 3, "R{l:[5,6]}");
        nothing("l[3] = 5");
        put("l[0] = 0", 3, "R{l:[0,6]}");
        put("lr[0].i = 1", 6, "R{l:[0,6],lr:[{i:1}]}");
        nothing("lr[2].i = 1");
        put("lr[1].r.i = 0", 8, "R{l:[0,6],lr:[{i:1},{r:{}}]}");
        put("lr[0] = {u:2}", 8, "R{l:[0,6],lr:[{u:2},{r:{}}]}");
        put("lt[0] = \"\"", 10, "R{l:[0,6],lr:[{u:2},{r:{}}],lt:[\"\"]}");
        put("l = []", 7, "R{lr:[{u:2},{r:{}}],lt:[\"\"]}");
        put("lr[0].lt[0] = \"x\"", 9, "R{lr:[{u:2,lt:[\"x\"]},{r:{}}],lt:[\"\"]}");
    }

    private static void putKeys() {
        begin("R{}");
        put("m[5] = {}", 3, "R{m:<5:{}>}");
        put("m[-5].i = 1", 6, "R{m:<-5:{i:1},5:{}>}");
        put("m[5].i = 2", 7, "R{m:<-5:{i:1},5:{i:2}>}");
        put("m[5] = {u:3}", 7, "R{m:<-5:{i:1},5:{u:3}>}");
        put("mt2[\"b\"] = 0", 10, "R{m:<-5:{i:1},5:{u:3}>,mt2:<\"b\":0>}");
        put("mt2[\"a\"] = 1", 12, "R{m:<-5:{i:1},5:{u:3}>,mt2:<\"a\":1,\"b\":0>}");
        put("m = <>", 5, "R{mt2:<\"a\":1,\"b\":0>}");
        put("m[0].l[0] = 1", 10, "R{m:<0:{l:[1]}>,mt2:<\"a\":1,\"b\":0>}");
        nothing("m[1].l[1] = 1");
        put("mt2 = <\"z\":1>", 8, "R{m:<0:{l:[1]}>,mt2:<\"z\":1>}");
        Check.due("BYTES of a key", c.house.told(0, 3), 1);
    }

    private static void putOnes() {
        begin("R{oi:5}");
        put("ot = \"\"", 1, "R{ot:\"\"}");
        put("or.i = 0", 1, "R{or:{}}");
        put("or.or.i = 1", 3, "R{or:{or:{i:1}}}");
        put("oi = 0", 1, "R{oi:0}");
        put("on = {}", 1, "R{on:{}}");
        nothing("or.l[1] = 1");
        put("or = {or:{}}", 2, "R{or:{or:{}}}");
        wrongPut(7, "oi = ^true");
        put("or.oi = 1", 2, "R{or:{oi:1}}");
        Check.due("ask of one that went", c.ask(0, 0, "oi"), 0);
    }

    /** The n-th . of a path through records alone leads into a record of depth n + 1. */
    private static void putDeep() {
        begin("R{}");
        String ten = Check.times("r.", 10);
        Check.due("eleven .", c.put(0, ten + "r.i = 1"), 12);
        Check.due("12 deep", c.house.told(0, 4), 12);
        c.read(0, 0, "R{}");
        wrongPut(3, ten + "r.r^.i = 1");
        wrongPut(3, ten + "r.r^.x = 1");
        wrongPut(3, ten + "r.r^.");
        wrongPut(3, ten + "r.r^. ?");
        wrongPut(3, ten + "r.or^.i = 1");
        wrongPut(3, ten + "r.mr^.i = 1");
        wrongPut(3, ten + "r.on^.i = 1");
        wrongPut(3, ten + "r.r = ^{}");
        wrongPut(3, ten + "r.r = ^{ ?");
        wrongPut(3, ten + "r = {r:^{}}");
        wrongPut(7, ten + "r.r = ^1");
        wrongPut(2, ten + "r.r = ^");
        wrongPut(2, ten + "r.r ^1");
        wrongPut(5, ten + "r.i^.i = 1");
        Check.due("a record of depth 12", c.put(0, ten + "r = {}"), 11);
        Check.due("told", c.house.told(0, 4), 12);
    }

    private static void putDeepOtherwise() {
        String ten = Check.times("r.", 10);
        begin("R{}");
        wrongPut(3, ten + "r.lr[0]^.i = 1");
        wrongPut(3, ten + "r.lr[9]^.i = 1");
        wrongPut(3, ten + "r.m[0]^.i = 1");
        wrongPut(3, ten + "r.lr[0] = ^{}");
        wrongPut(3, ten + "r.lr = [^{}]");
        wrongPut(3, ten + "r.m[0] = ^{}");
        wrongPut(3, ten + "r.m = <0:^{}>");
        wrongPut(7, ten + "r.m[^2147483648].i = 1");
        nothing(ten + "r.l[1] = 1");
        begin("R{}");
        Check.due("no items are not deep", c.put(0, ten + "r.lr = []"), 11);
        Check.due("nor keys", c.put(0, ten + "r.m = <>"), 11);
        String items = Check.times("lr[0].", 11);
        begin("R{}");
        Check.due("through items", c.put(0, items + "i = 1"), 23);
        wrongPut(3, items + "lr[0]^.i = 1");
        String keys = Check.times("m[5].", 11);
        c.read(0, 0, "R{}");
        Check.due("through keys", c.put(0, keys + "i = 1"), 34);
        wrongPut(3, keys + "m[5]^.i = 1");
        wrongPut(3, keys + "r = ^{}");
    }

    private static void putLarge() {
        begin("R{l:[0" + Check.times(",0", 397) + "]}");
        Check.due("399 VALUES", c.house.told(0, 2), 399);
        Check.due("400", c.put(0, "i = 1"), 400);
        Check.due("again", c.put(0, "i = 2"), 400);
        Check.due("not SET", c.put(0, "u = 0"), 400);
        wrongPut(3, "^u = 1");
        wrongPut(3, "^ u = 1");
        wrongPut(3, "^r.i = 0");
        wrongPut(3, "^l[398] = 0");
        wrongPut(3, "^mi = 0");
        wrongPut(3, "^m[0] = {}");
        // behind all else
        wrongPut(7, "u = ^-1");
        wrongPut(2, "u = 1 ^1");
        wrongPut(1, "u = 1 ^?");
        Check.due("one goes, one comes", c.put(0, "i = 0"), 399);
        Check.due("400 again", c.put(0, "r.i = 0"), 400);
        Check.due("fewer", c.put(0, "l = [1]"), 3);
        begin("R{lt:[" + Check.times("\"" + Check.times("x", 60) + "\",", 32) + "\"" + Check.times("y", 60) + "\"]}");
        Check.due("1980 and 20 BYTES", c.put(0, "s = \"" + Check.times("z", 20) + "\""), 35);
        wrongPut(3, "^s = \"" + Check.times("z", 21) + "\"");
        wrongPut(3, "^t = \"z\"");
        wrongPut(3, "^mt2[\"z\"] = 1");
        Check.due("without bytes", c.put(0, "t = \"\""), 36);
        Check.due("a key without bytes", c.put(0, "mt2[\"\"] = 1"), 39);
        Check.due("2000", c.house.told(0, 3), 2000);
    }

    private static void putNothing() {
        begin("R{l:[1],lr:[{}]}");
        nothing("l[2] = 1");
        nothing("l[-1] = 1");
        nothing("l[9223372036854775807] = 1");
        nothing("lr[2] = {}");
        nothing("lr[2].i = 1");
        nothing("lr[0].l[1] = 1");
        nothing("r.l[1] = 1");
        nothing("m[0].l[1] = 1");
        nothing("or.lr[1].r.r.i = 1");
        // behind all faults
        wrongPut(7, "l[2] = ^true");
        wrongPut(1, "l[2] = ^?");
        wrongPut(2, "l[2] = 1 ^1");
        wrongPut(2, "l[2] =^");
        wrongPut(5, "lr[2].^x = 1");
        wrongPut(5, "lr[2]^[0] = 1");
        wrongPut(4, "lr[2] = {i:1,^i:1}");
        wrongPut(7, "lr[2].l[1] = ^\"\"");
        wrongPut(3, "lr[2]" + Check.times(".r", 11) + "^.i = 1");
        nothing("lr[2]" + Check.times(".r", 10) + ".i = 1");
    }

    /** LARGE counts the records that came on the way, but not v. */
    private static void putNothingLarge() {
        String most = "l:[0" + Check.times(",0", 397) + "]";
        begin("R{" + most + "}");
        Check.due("399 VALUES", c.house.told(0, 2), 399);
        nothing("l[399] = 1");
        nothing("r.l[1] = 1");
        nothing("r.lt[1] = \"" + Check.times("x", 60) + "\"");
        nothing("r.lr[1] = {i:1,u:2,w:3}");
        wrongPut(3, "^r.r.l[1] = 1");
        wrongPut(3, "^m[0].l[1] = 1");
        wrongPut(3, "^lr[0].l[1] = 1");
        // what would come behind the NOTHING does not count
        nothing("lr[1].r.r.r.r.i = 1");
        nothing("r.lr[1].r.r.r.i = 1");
        wrongPut(7, "r.r.l[1] = ^true");
        // a one's record in place of another field
        begin("R{oi:1," + most + "}");
        Check.due("400 VALUES", c.house.told(0, 2), 400);
        nothing("or.l[1] = 1");
        wrongPut(3, "^or.r.l[1] = 1");
        wrongPut(3, "^r.l[1] = 1");
        nothing("l[400] = 1");
    }

    private static void putRefused() {
        begin("R{i:1}");
        c.tape("i = 2");
        for (int m : new int[] {-1, 12}) {
            Check.due("BAD", c.house.put(m), Check.BAD);
        }
        Check.due("NO", c.house.put(11), Check.NO);
        Check.due("the tape stays", c.house.net(4), 5);
        Check.due("put", c.house.put(0), 1);
        Check.due("the tape is empty", c.house.net(4), 0);
        c.tape("i");
        for (int m : new int[] {-1, 12}) {
            Check.due("BAD", c.house.remove(m), Check.BAD);
        }
        Check.due("NO", c.house.remove(11), Check.NO);
        Check.due("the tape stays", c.house.net(4), 1);
        Check.due("remove", c.house.remove(0), 0);
        Check.due("the tape is empty", c.house.net(4), 0);
    }

    private static void take(String path, int values, String due) {
        Check.due("remove " + path, c.remove(0, path), values);
        Check.due("no fault of " + path, c.house.place(), Check.NO);
        c.printed("behind " + path, 0, due);
    }

    private static void takenAway() {
        begin("R{b:false,i:1,t:\"x\",e:A,r:{i:2,l:[7,8,9]},mi:0,mt:\"\",lr:[{i:1},{},{i:3}],m:<1:{},2:{i:5}>,oi:0}");
        String rest = "r:{i:2,l:[7,8,9]},mi:0,mt:\"\",lr:[{i:1},{},{i:3}],m:<1:{},2:{i:5}>,oi:0}";
        Check.due("VALUES", c.house.told(0, 2), 25);
        take("b", 24, "R{i:1,t:\"x\",e:A," + rest);
        take("i", 23, "R{t:\"x\",e:A," + rest);
        take("i", 23, "R{t:\"x\",e:A," + rest);
        take("t", 22, "R{e:A," + rest);
        Check.due("its DEFAULT", c.ask(0, 5, "t"), 2);
        c.row("d", 5, "d");
        take("e", 21, "R{" + rest);
        take("r.l[0]", 20, "R{" + rest.replace("[7,8,9]", "[8,9]"));
        take("r.l[1]", 19, "R{" + rest.replace("[7,8,9]", "[8]"));
        rest = rest.replace(",l:[7,8,9]", "");
        take("r.l[0]", 17, "R{" + rest);
        take("mi", 16, "R{" + rest.replace("mi:0,", ""));
        rest = rest.replace("mi:0,mt:\"\",", "");
        take("mt", 15, "R{" + rest);
        rest = rest.replace(",{},", ",");
        take("lr[1]", 14, "R{" + rest);
        rest = rest.replace("{i:1}", "{}");
        take("lr[0].i", 13, "R{" + rest);
        take("m[1]", 11, "R{r:{i:2},lr:[{},{i:3}],m:<2:{i:5}>,oi:0}");
        take("oi", 10, "R{r:{i:2},lr:[{},{i:3}],m:<2:{i:5}>}");
        take("m[2]", 6, "R{r:{i:2},lr:[{},{i:3}]}");
        take("r", 4, "R{lr:[{},{i:3}]}");
        take("lr", 0, "R{}");
    }

    private static void takenNothing() {
        begin("R{i:1,lr:[{}]}");
        c.ask(0, 0, "i.");
        for (String path : "r mi mt mr oi ot or on r.i r.l lr[1] lr[-1] lr[0].r.i l[0] m[0] m[0].i mt2[\"\"] lt[0]".split(" ")) {
            Check.due("remove " + path, c.remove(0, path), Check.NO);
            Check.due("NO leaves the place", c.house.place(), 1);
            c.printed("m stays", 0, "R{i:1,lr:[{}]}");
            Check.due("the tape is empty", c.house.net(4), 0);
        }
        // MANY and MAPS are there with no items, too, and a SINGLE number, text
        for (String path : "l m lt lr[0].l lr[0].i u t s e b".split(" ")) {
            take(path, 3, "R{i:1,lr:[{}]}");
        }
    }

    /** Fields go by their numbers, however they stand in the text. */
    private static void notInOrder() {
        c = new Check();
        c.schema(0, "record N { } record R { int c @ 9; one o { int b @ 7; text a @ 1; N n @ 4; R q @ 10; } maybe int d @ 3; many int e @ 8; R r @ 2; text t @ 6; map<int, int> m @ 5; }");
        String all = "R{r:{},d:3,n:{},m:<5:5>,t:\"6\",e:[8],c:9}";
        c.read(0, 0, "R{c:9,n:{},d:3,e:[8],r:{},t:\"6\",m:<5:5>}");
        c.printed("by rising numbers", 0, all);
        for (String[] p : new String[][] {{"c", ",c:9"}, {"n", "n:{},"}, {"d", "d:3,"}, {"e", "e:[8],"}, {"r", "r:{},"}, {"t", "t:\"6\","}, {"m", "m:<5:5>,"}}) {
            c.house.copy(0, 1);
            Check.due("remove " + p[0], c.remove(1, p[0]) >= 0 ? 1 : 0, 1);
            c.printed("without " + p[0], 1, all.replace(p[1], ""));
        }
        String[][] puts = {{"b = 7", "b:7"}, {"a = \"1\"", "a:\"1\""}, {"n = {}", "n:{}"}, {"q.d = 0", "q:{d:0}"}, {"a = \"\"", "a:\"\""}, {"q = {}", "q:{}"}, {"b = 0", "b:0"}};
        c.read(0, 0, "R{r:{},m:<5:5>,c:9}");
        for (String[] p : puts) {
            Check.due(p[0], c.put(0, p[0]) >= 4 ? 1 : 0, 1);
            char name = p[1].charAt(0);
            String due = name == 'a' ? "R{#,r:{},m:<5:5>,c:9}" : name == 'n' ? "R{r:{},#,m:<5:5>,c:9}" : name == 'b' ? "R{r:{},m:<5:5>,#,c:9}" : "R{r:{},m:<5:5>,c:9,#}";
            c.printed("behind " + p[0], 0, due.replace("#", p[1]));
        }
        // the others of the one go in a STREAM, too
        c.load(2, "4809 3807 1200 0a0131 2200 5200 3806");
        Check.due("decode", c.house.decode(0, 1, 0, 2, 1), 3);
        c.printed("the last of the one", 1, "R{r:{},b:6,c:9}");
        c.load(2, "4809 320136 4800 1807 320164 3806 4805 320135");
        Check.due("DEFAULTS that come later", c.house.decode(0, 1, 0, 2, 2), 4);
        c.printed("the later ones", 2, "R{d:7,t:\"5\",b:6,c:5}");
        c.load(2, "4809 320136 1807 4800 3200");
        Check.due("DEFAULTS that come later", c.house.decode(0, 1, 0, 2, 2), 1);
        c.printed("alone", 2, "R{d:7}");
        Check.due("differ", c.house.differ(0, 1), 2);
        c.house.path(0, 3);
        c.row("m", 3, "m");
        c.house.path(1, 3);
        c.row("b", 3, "b");
    }

    /** As many parts as THE TAPE has room for, of a message that is full. */
    private static void longPaths() {
        begin("R{l:[0" + Check.times(",0", 392) + "],m:<0:{},1:{}>}");
        Check.due("399 VALUES", c.house.told(0, 2), 399);
        String path = "m[0]" + Check.times(".m[0]", 790);
        asks(path, 0, 0);
        begin("R{l:[0" + Check.times(",0", 392) + "],m:<0:{},1:{}>}");
        Check.due("nothing to take away", c.remove(0, path), Check.NO);
        begin("R{l:[0" + Check.times(",0", 392) + "],m:<0:{},1:{}>}");
        wrongPut(3, Check.times("m[0].", 11) + "m[0]^.m[0]" + Check.times(".m[0]", 778));
        asks("m[1]", 3, R);
        // 2000 BYTES, and keys of 60
        c = new Check();
        c.schema(0, "record R { map<text, R> m @ 1; int i @ 2; many text t @ 3; }");
        String key = "m[\"" + Check.times("k", 60) + "\"].";
        c.read(0, 0, "R{}");
        Check.due("12 deep", c.put(0, Check.times(key, 11) + "i = 7"), 34);
        String sixty = "\"" + Check.times("x", 60) + "\"";
        Check.due("2000 BYTES", c.put(0, "t = [" + Check.times(sixty + ",", 22) + "\"" + Check.times("y", 20) + "\"]"), 58);
        Check.due("of them", c.house.told(0, 3), 2000);
        asks(Check.times(key, 11) + "i", 1, 7);
        asks(Check.times(key, 58) + "i", 0, 0);
        Check.due("put", c.put(0, Check.times(key, 11) + "i = 0"), 57);
        Check.due("remove", c.remove(0, Check.times(key, 10) + key.substring(0, key.length() - 1)), 54);
        Check.due("ten keys", c.house.told(0, 3), 1940);
    }

    private static void removeFaults() {
        begin("R{i:1,l:[1]}");
        wrong(2, "l[0] ^= 1");
        wrong(5, "l[0]^[0]");
        wrong(2, "l ^l");
        for (String path : new String[] {"", "x", "l[", "i.i", "l[0] 1", "m[2147483648]"}) {
            c.remove(0, path);
            Check.due("the tape is empty", c.house.net(4), 0);
            c.printed("m stays", 0, "R{i:1,l:[1]}");
        }
    }

    private static void merge(String one, String two, int values, String due) {
        c.read(0, 0, one);
        c.read(0, 1, two);
        Check.due("merge " + one + " " + two, c.house.merge(0, 1), values);
        Check.due("VALUES", c.house.told(0, 2), values);
        c.printed("MERGED " + one + " " + two, 0, due);
        c.printed("n stays", 1, two);
    }

    private static void merged() {
        begin("R{}");
        merge("R{}", "R{}", 0, "R{}");
        merge("R{i:1}", "R{}", 1, "R{i:1}");
        merge("R{}", "R{i:1}", 1, "R{i:1}");
        // what is not SET is not WRITTEN
        merge("R{i:1,t:\"x\",b:false}", "R{t:\"\"}", 3, "R{b:false,i:1,t:\"\"}");
        merge("R{mi:5}", "R{mi:0}", 1, "R{mi:0}");
        merge("R{mt:\"x\"}", "R{mt:\"\"}", 1, "R{mt:\"\"}");
        merge("R{r:{i:1}}", "R{r:{}}", 2, "R{r:{i:1}}");
        merge("R{r:{i:1}}", "R{r:{u:2,r:{}}}", 4, "R{r:{i:1,u:2,r:{}}}");
        merge("R{mr:{i:1}}", "R{mr:{u:2}}", 3, "R{mr:{i:1,u:2}}");
        merge("R{l:[1,2]}", "R{l:[2]}", 4, "R{l:[1,2,2]}");
        merge("R{lr:[{i:1}]}", "R{lr:[{u:1}]}", 5, "R{lr:[{i:1},{u:1}]}");
        // in place of an item with that key, not READ on into it
        merge("R{m:<1:{i:1},2:{}>}", "R{m:<1:{u:2},3:{}>}", 8, "R{m:<1:{u:2},2:{},3:{}>}");
        merge("R{mt2:<\"b\":1>}", "R{mt2:<\"a\":2,\"b\":0>}", 5, "R{mt2:<\"a\":2,\"b\":0>}");
        c.read(0, 0, "R{i:1,l:[1],lr:[{}],m:<1:{}>,r:{l:[2]},oi:5}");
        Check.due("with itself", c.house.merge(0, 0), 15);
        c.printed("its bytes of before", 0, "R{i:1,r:{l:[2,2]},l:[1,1],lr:[{},{}],m:<1:{}>,oi:5}");
        c.load(0, "f80c01 4203f80c02");
        c.house.decode(0, R, 0, 0, 0);
        Check.due("unknown ones with themselves", c.house.merge(0, 0), 5);
        c.house.encode(0, 0, 1);
        c.bytes("behind those of before", 1, "4206f80c02f80c02f80c01f80c01");
    }

    private static void mergedOnes() {
        begin("R{}");
        merge("R{oi:1}", "R{ot:\"\"}", 1, "R{ot:\"\"}");
        merge("R{or:{i:1}}", "R{oi:0}", 1, "R{oi:0}");
        merge("R{or:{i:1}}", "R{or:{u:2}}", 3, "R{or:{i:1,u:2}}");
        merge("R{or:{i:1}}", "R{on:{}}", 1, "R{on:{}}");
        merge("R{or:{oi:1}}", "R{or:{ot:\"\"}}", 2, "R{or:{ot:\"\"}}");
        merge("R{on:{}}", "R{}", 1, "R{on:{}}");
    }

    private static void mergedLarge() {
        begin("R{l:[0" + Check.times(",0", 198) + "]}");
        c.read(0, 1, "R{l:[0" + Check.times(",0", 199) + "]}");
        Check.due("of 200 and 201: 400", c.house.merge(0, 1), 400);
        c.read(0, 0, "R{l:[0" + Check.times(",0", 199) + "]}");
        Check.due("of 201 and 201: 401", c.house.merge(0, 1), Check.FULL);
        Check.due("of itself: 401", c.house.merge(0, 0), Check.FULL);
        Check.due("m stays", c.house.told(0, 2), 201);
        Check.due("n stays", c.house.same(0, 1), 1);
        c.load(0, "32e807" + Check.times("41", 1000) + "7201" + "42");
        Check.due("1001 BYTES", c.house.decode(0, R, 0, 0, 2), 3);
        Check.due("and 1 more, with itself", c.house.merge(2, 2), 4);
        Check.due("BYTES", c.house.told(2, 3), 1002);
        c.load(0, "32e607" + Check.times("41", 998) + "72e707" + Check.times("43", 999));
        Check.due("1997 BYTES", c.house.decode(0, R, 0, 0, 2), 3);
        c.read(0, 3, "R{lt:[\"abc\"]}");
        Check.due("2000", c.house.merge(2, 3), 4);
        Check.due("BYTES", c.house.told(2, 3), 2000);
        Check.due("2003", c.house.merge(2, 3), Check.FULL);
        Check.due("m stays", c.house.told(2, 3), 2000);
        c.read(0, 3, "R{lt:[\"\"],s:\"\\xff\"}");
        Check.due("an item without bytes, and fewer of s", c.house.merge(2, 3), 5);
        Check.due("BYTES", c.house.told(2, 3), 2000 - 997);
    }

    private static void mergeRefused() {
        begin("R{i:1}");
        c.read(0, 1, "N{}");
        c.schema(1, SCHEMA);
        c.read(1, 2, "R{i:2}");
        for (int[] b : new int[][] {{-1, 0}, {0, -1}, {12, 0}, {0, 12}, {12, 5}, {5, 12}}) {
            Check.due("merge is BAD", c.house.merge(b[0], b[1]), Check.BAD);
            Check.due("differ is BAD", c.house.differ(b[0], b[1]), Check.BAD);
            Check.due("same is BAD", c.house.same(b[0], b[1]), Check.BAD);
        }
        for (int[] b : new int[][] {{0, 5}, {5, 0}, {5, 6}, {5, 5}, {0, 1}, {1, 0}, {0, 2}, {2, 0}}) {
            Check.due("merge is NO", c.house.merge(b[0], b[1]), Check.NO);
            Check.due("differ is NO", c.house.differ(b[0], b[1]), Check.NO);
        }
        c.printed("m stays", 0, "R{i:1}");
        Check.due("of two records", c.house.same(0, 1), 0);
        Check.due("of two schemas", c.house.same(0, 2), 0);
        Check.due("one is none", c.house.same(0, 5), Check.NO);
        Check.due("one is none", c.house.same(5, 0), Check.NO);
    }

    private static void differ(String one, String two, String due) {
        c.read(0, 0, one);
        c.read(0, 1, two);
        for (int turn = 0; turn < 2; turn++) {
            int n = c.house.differ(turn, 1 - turn);
            StringBuilder paths = new StringBuilder();
            for (int k = 0; k < n; k++) {
                Check.due("size", c.house.path(k, 3), c.house.size(3));
                paths.append(k == 0 ? "" : " ").append(c.text(3));
            }
            Check.due("differ " + one + " " + two, paths.toString(), due);
            Check.due("the last", c.house.path(n, 3), Check.BAD);
        }
    }

    private static void differences() {
        begin("R{}");
        differ("R{}", "R{}", "");
        differ("R{i:0}", "R{}", "");
        differ("R{mi:0}", "R{}", "mi");
        differ("R{mt:\"\"}", "R{}", "mt");
        differ("R{r:{}}", "R{}", "r");
        differ("R{l:[0]}", "R{}", "l");
        differ("R{m:<0:{}>}", "R{}", "m");
        differ("R{oi:0}", "R{ot:\"\"}", "oi ot");
        differ("R{oi:0}", "R{on:{}}", "oi on");
        differ("R{or:{}}", "R{}", "or");
        differ("R{l:[1,2]}", "R{l:[2,1]}", "l");
        differ("R{lr:[{i:1}]}", "R{lr:[{i:2}]}", "lr");
        differ("R{m:<1:{i:1}>}", "R{m:<1:{i:2}>}", "m");
        differ("R{m:<1:{}>}", "R{m:<2:{}>}", "m");
        differ("R{mt2:<\"a\":1>}", "R{mt2:<\"a\":2>}", "mt2");
        differ("R{b:false,i:1,u:1,w:1,t:\"\",s:\"x\",e:A,mi:1}", "R{}", "b i u w t s e mi");
        c.schema(0, "record R { int c @ 3; int a @ 2000; one o { int b @ 1; R r @ 7; } }");
        differ("R{a:1,c:2,b:3}", "R{}", "b c a");
        differ("R{a:1,r:{a:1}}", "R{a:2,r:{b:1}}", "r.b r.a a");
    }

    private static void differencesWithin() {
        begin("R{}");
        differ("R{r:{i:1,r:{u:1}}}", "R{r:{r:{}}}", "r.i r.r.u");
        differ("R{r:{i:1}}", "R{r:{r:{}}}", "r.i r.r");
        differ("R{mr:{i:1}}", "R{mr:{i:2}}", "mr.i");
        differ("R{or:{or:{i:1}}}", "R{or:{or:{}}}", "or.or.i");
        differ("R{or:{or:{}}}", "R{or:{on:{}}}", "or.or or.on");
        differ("R{r:{l:[1]}}", "R{r:{l:[]}}", "r.l");
        String deep = "R" + Check.times("{r:", 11) + "{i:1,u:2}" + Check.times("}", 11);
        differ(deep, deep.replace("1", "3"), Check.times("r.", 11) + "i");
        c.load(0, "4203f80c01");
        c.house.decode(0, R, 0, 0, 0);
        c.load(0, "4203f80c02");
        c.house.decode(0, R, 0, 0, 1);
        Check.due("unknown fields do not count", c.house.differ(0, 1), 0);
        Check.due("with itself", c.house.differ(0, 0), 0);
    }

    /** The last schema, messages, row. */
    private static void lastOfAll() {
        c = new Check();
        c.schema(0, "record A { int x @ 1; int y @ 2; }");
        c.schema(3, "record Q { } record R { int a @ 1; int b @ 2; R r @ 3; }");
        c.read(0, 0, "A{x:1}");
        c.read(0, 1, "A{y:1}");
        c.read(3, 11, "R{a:1,r:{b:1}}");
        c.read(3, 10, "R{a:1,r:{a:1}}");
        Check.due("before", c.house.differ(0, 1), 2);
        Check.due("differ", c.house.differ(11, 10), 2);
        Check.due("path", c.house.path(0, 6), 3);
        c.row("it", 6, "r.a");
        Check.due("path", c.house.path(1, 7), 3);
        c.row("it", 7, "r.b");
        Check.due("put", c.put(11, "r.a = 2"), 4);
        Check.due("ask", c.ask(11, 7, "r.a"), 1);
        Check.due("number", c.house.number(), 2);
        Check.due("merge", c.house.merge(11, 10), 4);
        c.printed("MERGED", 11, "R{a:1,r:{a:1,b:1}}");
        Check.due("remove", c.remove(11, "r"), 1);
        c.printed("TAKEN AWAY", 11, "R{a:1}");
        c.printed("no other", 10, "R{a:1,r:{a:1}}");
    }

    /** The DIFFERENCES are those of the latest differ() that told a number, whatever became of its messages. */
    private static void pathsKept() {
        begin("R{i:1,r:{u:1}}");
        Check.due("before any", c.house.path(0, 3), Check.BAD);
        c.read(0, 1, "R{r:{}}");
        Check.due("two", c.house.differ(0, 1), 2);
        c.load(3, "41");
        for (int[] b : new int[][] {{-1, 3}, {2, 3}, {0, -1}, {0, 8}, {2, 8}, {Integer.MAX_VALUE, 3}, {Integer.MIN_VALUE, 3}}) {
            Check.due("BAD", c.house.path(b[0], b[1]), Check.BAD);
        }
        c.row("the row stays", 3, "A");
        Check.due("NO keeps them", c.house.differ(0, 9), Check.NO);
        Check.due("BAD keeps them", c.house.differ(0, 12), Check.BAD);
        c.house.drop(0);
        c.house.drop(1);
        Check.due("messages that went", c.house.path(1, 3), 3);
        c.row("its path", 3, "r.u");
        c.schema(0, "record Q { int z @ 2; }");
        Check.due("a schema that went", c.house.path(0, 3), 1);
        c.row("its path", 3, "i");
        c.read(0, 0, "Q{}");
        Check.due("none", c.house.differ(0, 0), 0);
        Check.due("none now", c.house.path(0, 3), Check.BAD);
    }
}
