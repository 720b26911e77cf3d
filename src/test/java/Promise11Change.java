/** Promise 11: put, remove, merge. */
public final class Promise11Change {
    private static Check C = new Check();
    private static final String SCHEMA = "enum E { A = 1; B = 7; } record R { int i @ 2 = 5; text t @ 3 = \"d\"; R r @ 4; many int l @ 5; many R lr @ 7; map<text, R> m @ 8; map<int, E> me @ 9; one o { text p @ 10; long j @ 12; R q @ 13; } maybe bytes y @ 14; many text lt @ 15; } record N { int i @ 1; }";

    public static void main(String[] args) {
        puts();
        putFaults();
        nothing();
        putLimits();
        removes();
        merges();
        Check.end();
    }

    private static void put(String text, int values, String due) {
        Check.due(text, C.put(0, text), values);
        C.printed("printed behind " + text, 0, due);
    }

    private static void puts() {
        C = new Check();
        C.schema(0, SCHEMA);
        C.read(0, 0, "R {}");
        put("i = 6", 1, "R{i:6}");
        put("i = 5", 0, "R{}");
        put("t = \"\"", 1, "R{t:\"\"}");
        put("t = \"d\"", 0, "R{}");
        put("r.r.i = 1", 3, "R{r:{r:{i:1}}}");
        put("r.r.i = 5", 2, "R{r:{r:{}}}");
        put("r = {}", 1, "R{r:{}}");
        C.remove(0, "r");
        put("l[0] = 4", 2, "R{l:[4]}");
        put("l[1] = 5", 3, "R{l:[4,5]}");
        put("l[0] = -4", 3, "R{l:[-4,5]}");
        put("l = []", 0, "R{}");
        put("lr[0].lr[0].i = 9", 5, "R{lr:[{lr:[{i:9}]}]}");
        put("lr = [{}]", 2, "R{lr:[{}]}");
        put("lr = []", 0, "R{}");
        put("me[-3] = B", 3, "R{me:<-3:B>}");
        put("me[-5] = 9", 5, "R{me:<-5:9,-3:B>}");
        put("me[-3] = A", 5, "R{me:<-5:9,-3:A>}");
        put("me = <>", 0, "R{}");
        put("m[\"k\"].m[\"\"].i = 1", 7, "R{m:<\"k\":{m:<\"\":{i:1}>}>}");
        put("m[\"k\"] = {}", 3, "R{m:<\"k\":{}>}");
        put("m = <>", 0, "R{}");
        put("p = \"\"", 1, "R{p:\"\"}");
        put("j = 0", 1, "R{j:0}");
        put("q.i = 2", 2, "R{q:{i:2}}");
        put("q.q.j = 3", 4, "R{q:{i:2,q:{j:3}}}");
        put("p = \"z\"", 1, "R{p:\"z\"}");
        put("y = \"\"", 2, "R{p:\"z\",y:\"\"}");
        // unknown fields go with a record that is put
        C.load(0, "2202 7801 7802");
        C.house.decode(0, 1, 0, 0, 0);
        Check.due("unknown fields", C.house.told(0, 5), 2);
        put("r = {}", 2, "R{r:{}}");
        Check.due("one of them went", C.house.told(0, 5), 1);
    }

    private static void wrong(String text, int fault, int at) {
        C.read(0, 0, "R {i: 77}");
        C.house.copy(0, 11);
        C.fault(text, C.put(0, text), fault, at);
        Check.due("the message stays", C.house.same(0, 11), 1);
    }

    private static void putFaults() {
        C = new Check();
        C.schema(0, SCHEMA);
        wrong("", 2, 0);
        wrong("x = 1", 5, 0);
        wrong("i", 2, 1);
        wrong("i == 1", 2, 2);
        wrong("i = ", 2, 4);
        wrong("i = true", 7, 4);
        wrong("i = 2147483648", 7, 4);
        wrong("i = 1 1", 2, 6);
        wrong("i.i = 1", 5, 1);
        wrong("l = 1", 7, 4);
        wrong("l[0] = [1]", 7, 7);
        wrong("l[\"0\"] = 1", 5, 1);
        wrong("r = {i: 1, i: 2}", 4, 11);
        wrong("r = {p: \"\", j: 2}", 4, 12);
        wrong("me = <1: A, 1: A>", 4, 12);
        wrong("me[1] = C", 5, 8);
        wrong("me[2147483648] = A", 7, 3);
        wrong("m[\"\\xff\"] = {}", 7, 2);
        wrong("l[7] = ?", 1, 7);
        wrong("r.l[7] = true", 7, 9);
        C.tape("i = 1");
        Check.due("no such message", C.house.put(12), Check.BAD);
        Check.due("none there", C.house.put(9), Check.NO);
        Check.due("the tape stays", C.house.net(4), 5);
        C.house.cut(5);
    }

    private static void nothing(String text) {
        C.read(0, 0, "R {i: 77, l: [1], lr: [{}], j: 4}");
        Check.due(text, C.put(0, text), Check.NO);
        C.printed("the message stays", 0, "R{i:77,l:[1],lr:[{}],j:4}");
        Check.due("the tape is empty", C.house.net(4), 0);
    }

    private static void nothing() {
        C = new Check();
        C.schema(0, SCHEMA);
        nothing("l[2] = 1");
        nothing("l[-1] = 1");
        nothing("lr[2].i = 1");
        nothing("lr[0].l[1] = 1");
        nothing("lr[1].lr[1].r.r.i = 1");
        nothing("m[\"a\"].l[1] = 1");
        nothing("q.l[1] = 1");
        nothing("l[9223372036854775807] = 1");
        // LARGE counts the records that came on the way, but not v
        String many = Check.times("0,", 395) + "0";
        C.read(0, 0, "R {l: [" + many + "]}");
        Check.due("397 VALUES", C.house.told(0, 2), 397);
        Check.due("NOTHING with two records", C.put(0, "r.r.l[1] = 1"), Check.NO);
        Check.due("NOTHING with three", C.put(0, "r.r.r.lr[1] = {i: 1, t: \"\"}"), Check.NO);
        C.fault("LARGE with four", C.put(0, "r.r.r.r.l[1] = 1"), 3, 0);
        Check.due("NOTHING with an item and its key", C.put(0, "m[\"\"].l[1] = 1"), Check.NO);
        C.fault("LARGE with these and a record", C.put(0, "m[\"\"].r.l[1] = 1"), 3, 0);
        C.fault("a fault of v ahead of it", C.put(0, "r.r.r.r.l[1] = true"), 7, 15);
    }

    private static void putLimits() {
        C = new Check();
        C.schema(0, SCHEMA);
        C.read(0, 0, "R {}");
        String dots = Check.times("r.", 11);
        Check.due("eleven .", C.put(0, dots + "i = 1"), 12);
        Check.due("12 deep", C.house.told(0, 4), 12);
        wrong(dots + "r.i = 1", 3, 23);
        wrong(dots + "r.x = 1", 3, 23);
        wrong(dots + "i.x = 1", 5, 23);
        wrong(dots + "r = {}", 3, 26);
        wrong(dots + "lr = [{}]", 3, 28);
        wrong(dots + "lr[0] = {}", 3, 30);
        wrong(dots + "lr[0].i = 1", 3, 27);
        wrong(dots + "lr[5].i = 1", 3, 27);
        C.read(0, 0, "R {}");
        Check.due("no records below", C.put(0, dots + "lr = []"), 11);
        Check.due("400 VALUES", C.put(0, "l = [0" + Check.times(",0", 387) + "]"), 400);
        C.fault("401", C.put(0, "i = 1"), 3, 0);
        C.fault("a fault ahead of LARGE", C.put(0, "i = 1 ]"), 2, 6);
        Check.due("one that is not SET", C.put(0, "i = 5"), 400);
        C.fault("a one's is more", C.put(0, "j = 5"), 3, 0);
        C.read(0, 0, "R {lt: [" + Check.times("\"" + Check.times("x", 60) + "\",", 32) + "\"" + Check.times("x", 60) + "\"]}");
        Check.due("1980 BYTES and 20", C.put(0, "p = \"" + Check.times("x", 20) + "\""), 35);
        C.fault("21", C.put(0, "p = \"" + Check.times("x", 21) + "\""), 3, 0);
        Check.due("2000", C.house.told(0, 3), 2000);
    }

    private static void take(String path, int values, String due) {
        Check.due("remove " + path, C.remove(0, path), values);
        C.printed("printed then", 0, due);
    }

    private static void removes() {
        C = new Check();
        C.schema(0, SCHEMA);
        C.read(0, 0, "R {i: 1, r: {l: [1, 2, 3], t: \"\"}, me: <1: A, 2: B>, lr: [{}, {i: 1}], p: \"x\", y: \"\", m: <\"a\": {q: {}}>}");
        String due = "R{r:{t:\"\",l:[1,2,3]},lr:[{},{i:1}],m:<\"a\":{q:{}}>,me:<1:A,2:B>,p:\"x\",y:\"\"}";
        take("i", 21, due);
        take("i", 21, due);
        take("r.l[1]", 20, "R{r:{t:\"\",l:[1,3]},lr:[{},{i:1}],m:<\"a\":{q:{}}>,me:<1:A,2:B>,p:\"x\",y:\"\"}");
        take("r.l[0]", 19, "R{r:{t:\"\",l:[3]},lr:[{},{i:1}],m:<\"a\":{q:{}}>,me:<1:A,2:B>,p:\"x\",y:\"\"}");
        take("r.l[0]", 17, "R{r:{t:\"\"},lr:[{},{i:1}],m:<\"a\":{q:{}}>,me:<1:A,2:B>,p:\"x\",y:\"\"}");
        take("r.l", 17, C.printed(0));
        take("r.t", 16, "R{r:{},lr:[{},{i:1}],m:<\"a\":{q:{}}>,me:<1:A,2:B>,p:\"x\",y:\"\"}");
        take("r", 15, "R{lr:[{},{i:1}],m:<\"a\":{q:{}}>,me:<1:A,2:B>,p:\"x\",y:\"\"}");
        Check.due("what is not there", C.remove(0, "r"), Check.NO);
        Check.due("not on the way", C.remove(0, "r.l"), Check.NO);
        Check.due("another one of the one", C.remove(0, "j"), Check.NO);
        Check.due("no such item", C.remove(0, "lr[2]"), Check.NO);
        Check.due("no such key", C.remove(0, "me[3]"), Check.NO);
        take("lr[0]", 14, "R{lr:[{i:1}],m:<\"a\":{q:{}}>,me:<1:A,2:B>,p:\"x\",y:\"\"}");
        take("me[1]", 12, "R{lr:[{i:1}],m:<\"a\":{q:{}}>,me:<2:B>,p:\"x\",y:\"\"}");
        take("me[2]", 9, "R{lr:[{i:1}],m:<\"a\":{q:{}}>,p:\"x\",y:\"\"}");
        take("m[\"a\"].q", 8, "R{lr:[{i:1}],m:<\"a\":{}>,p:\"x\",y:\"\"}");
        take("p", 7, "R{lr:[{i:1}],m:<\"a\":{}>,y:\"\"}");
        take("y", 6, "R{lr:[{i:1}],m:<\"a\":{}>}");
        take("m", 3, "R{lr:[{i:1}]}");
        C.fault("a fault", C.remove(0, "lr[0] = {}"), 2, 6);
        C.tape("i");
        Check.due("no such message", C.house.remove(-1), Check.BAD);
        Check.due("none there", C.house.remove(9), Check.NO);
        Check.due("the tape stays", C.house.net(4), 1);
        C.house.cut(1);
    }

    private static void merge(String one, String two, int values, String due) {
        C.read(0, 0, one);
        C.read(0, 1, two);
        Check.due("merge " + one + " " + two, C.house.merge(0, 1), values);
        C.printed("MERGED", 0, due);
        C.read(0, 2, two);
        Check.due("n stays", C.house.same(1, 2), 1);
    }

    private static void merges() {
        C = new Check();
        C.schema(0, SCHEMA);
        merge("R {i: 1, t: \"a\"}", "R {i: 2}", 2, "R{i:2,t:\"a\"}");
        merge("R {i: 1}", "R {i: 5}", 1, "R{i:1}");
        merge("R {r: {i: 1}}", "R {r: {t: \"b\"}}", 3, "R{r:{i:1,t:\"b\"}}");
        merge("R {l: [1], lr: [{}]}", "R {l: [2], lr: [{i: 1}]}", 7, "R{l:[1,2],lr:[{},{i:1}]}");
        merge("R {m: <\"a\": {i: 1}, \"b\": {}>}", "R {m: <\"a\": {t: \"\"}>}", 6, "R{m:<\"a\":{t:\"\"},\"b\":{}>}");
        merge("R {p: \"x\"}", "R {q: {i: 1}}", 2, "R{q:{i:1}}");
        merge("R {q: {i: 1}}", "R {q: {}}", 2, "R{q:{i:1}}");
        merge("R {y: \"1\"}", "R {y: \"\"}", 1, "R{y:\"\"}");
        C.read(0, 0, "R {l: [1, 2], i: 3}");
        Check.due("merge with itself", C.house.merge(0, 0), 6);
        C.printed("MERGED", 0, "R{i:3,l:[1,2,1,2]}");
        C.load(0, "7801 2202 7802");
        C.house.decode(0, 1, 0, 0, 0);
        C.house.decode(0, 1, 0, 0, 1);
        Check.due("unknown fields", C.house.merge(0, 1), 5);
        Check.due("come behind", C.house.told(0, 5), 4);
        C.read(0, 0, "R {l: [0" + Check.times(",0", 198) + "]}");
        Check.due("merge up to 399", C.house.merge(0, 0), 399);
        C.read(0, 1, "R {l: [0]}");
        Check.due("up to 400", C.house.merge(0, 1), 400);
        Check.due("LARGE", C.house.merge(0, 1), Check.FULL);
        Check.due("m stays", C.house.told(0, 2), 400);
        C.read(0, 2, "N {}");
        Check.due("of another record", C.house.merge(0, 2), Check.NO);
        Check.due("one is none", C.house.merge(9, 0), Check.NO);
        Check.due("no such", C.house.merge(0, 12), Check.BAD);
    }
}
