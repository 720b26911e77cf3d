import java.util.Arrays;

/** Section 6 of the document: what is READ from SLOTTED rows, and each fault with its place. */
public final class Edges06Slotted {
    private static Check c;

    public static void main(String[] args) {
        roots();
        lengths();
        shortAndLong();
        otherPointers();
        leadsBeyond();
        endsBeyond();
        sorts();
        sortsInOrder();
        walkedLists();
        walkedText();
        walkedRecords();
        items();
        itemsOfRecords();
        deepRecords();
        deepLists();
        deepMaps();
        deepOnes();
        tags();
        tagsWithin();
        firstWords();
        keysRise();
        keysInTurn();
        texts();
        textsOfAll();
        flagsNotSet();
        lowestBits();
        bitsBehind();
        pointersOfZero();
        inTurn();
        large();
        stays();
        Check.end();
    }

    /** A house with a record R, type 2, of these parts. */
    private static void begin(String parts) {
        c = new Check();
        Check.due(parts, c.schema(0, "enum E { A = 1; B = -2; } record N { } record R { " + parts + " }") >= 3 ? 1 : 0, 1);
    }

    private static long rec(long distance, long d, long p) {
        return Edges06Layouts.rec(distance, d, p);
    }

    private static long list(long distance, long sort, long count) {
        return Edges06Layouts.list(distance, sort, count);
    }

    private static void good(int values, String due, long... words) {
        c.load(0, Edges06Layouts.row(words));
        Check.due(due, c.house.decode(0, 2, 2, 0, 1), values);
        Check.due("place() of " + due, c.house.place(), Check.NO);
        c.printed("it", 1, due);
    }

    /** The fault is told at the first byte of a word. */
    private static void bad(int fault, int word, long... words) {
        c.load(0, Edges06Layouts.row(words));
        c.fault("word " + word + " of " + words.length + ", fault " + fault, c.house.decode(0, 2, 2, 0, 0), fault, word * 8);
    }

    private static void roots() {
        begin("int i @ 1;");
        good(1, "R{i:5}", rec(0, 1, 0), 5);
        for (long bits = 1; bits < 4; bits++) {
            bad(2, 0, bits);
            bad(2, 0, bits, 0);
            bad(2, 0, bits | rec(1000, 1, 0));
        }
        good(0, "R{}", 0);
        good(0, "R{}", 0, -1);
        good(0, "R{}", rec(-1, 0, 0));
        good(0, "R{}", rec(-1, 0, 0), 5);
        good(1, "R{i:-4}", 0xfffffffcL | 1L << 32);
        bad(3, 0, rec(-2, 0, 0));
        bad(3, 0, rec(-2, 1, 0));
        bad(3, 0, rec(1, 0, 0));
        good(0, "R{}", rec(1, 0, 0), 7);
        bad(3, 0, rec(2, 0, 0), 7);
        bad(3, 0, rec(0, 1, 0));
        bad(3, 0, rec(0, 0, 1));
        bad(3, 0, rec(1, 1, 0), 0);
        bad(3, 0, rec(0, 1, 1), 0);
        good(1, "R{i:6}", rec(0, 1, 1), 6, 0);
        good(1, "R{i:6}", rec(1, 1, 0), 5, 6);
        bad(3, 0, rec((1 << 29) - 1, 0, 0));
        bad(3, 0, rec(-(1 << 29), 0, 0));
        bad(3, 0, rec(0, 65535, 0), 0);
        bad(3, 0, rec(0, 0, 65535), 0);
        bad(3, 0, rec(-1, 65535, 65535), 0);
    }

    private static void lengths() {
        begin("int i @ 1;");
        for (int n : new int[] {0, 1, 4, 7, 9, 15, 17, 3999}) {
            c.load(0, Check.times("02", n));
            c.fault(n + " bytes", c.house.decode(0, 2, 2, 0, 0), 1, n);
        }
        begin("int i @ 1;");
        c.load(0, Check.times("00", 4000));
        Check.due("4000 bytes", c.house.decode(0, 2, 2, 0, 0), 0);
    }

    /** Data words and pointers beyond the LAYOUT count for nothing, those that lack are 0. */
    private static void shortAndLong() {
        begin("int i @ 1 = 7; long j @ 2; text t @ 3 = \"d\"; N n @ 4; bool b @ 5 = true;");
        good(0, "R{}", rec(0, 0, 0));
        good(0, "R{}", rec(0, 1, 0), 0);
        good(1, "R{i:5}", rec(0, 1, 0), 2);
        good(1, "R{i:0}", rec(0, 1, 0), 7);
        good(1, "R{b:false}", rec(0, 1, 0), 1L << 32);
        good(1, "R{j:-1}", rec(0, 2, 0), 0, -1);
        good(0, "R{}", rec(0, 3, 0), 0, 0, -1);
        good(0, "R{}", rec(0, 1, 0), -1L << 33);
        good(1, "R{t:\"a\"}", rec(0, 0, 1), list(0, 2, 2), 'a');
        good(1, "R{n:{}}", rec(0, 0, 2), 0, rec(-1, 0, 0));
        good(0, "R{}", rec(0, 2, 4), 0, 0, 0, 0, 2, 7);
        good(2, "R{j:1,n:{}}", rec(0, 4, 3), 0, 1, -1, -1, 0, rec(-1, 0, 0), -1);
        // a word that is a pointer is one, whatever the LAYOUT has there
        bad(2, 1, rec(0, 0, 1), 5L << 1);
    }

    private static void otherPointers() {
        begin("text t @ 1; R r @ 2; many int l @ 3; many R k @ 4; map<int, int> m @ 5; bytes s @ 6;");
        long top = rec(0, 0, 6);
        for (int i = 0; i < 6; i++) {
            long[] words = {top, 0, 0, 0, 0, 0, 0, 0};
            for (long bits : new long[] {2, 3, 6, 7, -1, -2, 3L | 1L << 40, rec(1000, 1, 1) | 2}) {
                words[1 + i] = bits;
                bad(2, 1 + i, words);
            }
            // of the other sort than wanted, also beyond the row
            words[1 + i] = i == 1 ? list(0, 2, 1) : rec(0, 1, 0);
            bad(2, 1 + i, words);
            words[1 + i] = i == 1 ? list(100, 2, 1) : rec(-1, 0, 0);
            bad(2, 1 + i, words);
        }
    }

    private static void leadsBeyond() {
        begin("bytes s @ 1; R r @ 2;");
        long top = rec(0, 0, 2);
        // the pointer of s ends at word 2, of three
        good(0, "R{}", top, list(1, 2, 0), 0);
        bad(3, 1, top, list(2, 2, 0), 0);
        good(0, "R{}", top, list(-2, 2, 0), 0);
        bad(3, 1, top, list(-3, 2, 0), 0);
        good(1, "R{s:\"\\x00\"}", top, list(0, 2, 1), 0);
        bad(3, 1, top, list(1, 2, 1), 0);
        bad(3, 1, top, list((1 << 29) - 1, 2, 0), 0);
        bad(3, 1, top, list(-(1 << 29), 2, 0), 0);
        good(1, "R{r:{}}", top, 0, rec(0, 0, 0) | rec(-1, 0, 0));
        good(1, "R{r:{}}", top, 0, rec(-3, 0, 0));
        bad(3, 2, top, 0, rec(-4, 0, 0));
        bad(3, 2, top, 0, rec(1, 0, 0));
        good(1, "R{r:{}}", top, 0, rec(1, 0, 0), 0);
        bad(3, 2, top, 0, rec(0, 1, 0));
        bad(3, 2, top, 0, rec(0, 0, 1));
        // right at the end there may stand what has no words
        bad(3, 2, top, 0, rec(1, 0, 1), 0);
    }

    private static void endsBeyond() {
        begin("bytes s @ 1; many bool b @ 2; many E e @ 3; many int i @ 4; many long j @ 5; many text t @ 6; many N n @ 7;");
        long top = rec(0, 0, 7);
        int[] sorts = {2, 1, 3, 4, 5, 6, 7};
        long[] most = {8, 64, 4, 2, 1, 1, 0};
        for (int i = 0; i < 7; i++) {
            long[] words = {top, 0, 0, 0, 0, 0, 0, 0, 0};
            words[1 + i] = list(6 - i, sorts[i], most[i]);
            c.load(0, Edges06Layouts.row(words));
            Check.due("one word of SORT " + sorts[i], c.house.decode(0, 2, 2, 0, 0) >= 0 ? 1 : 0, 1);
            words[1 + i] = list(6 - i, sorts[i], most[i] + 1);
            bad(3, 1 + i, words);
            words[1 + i] = list(7 - i, sorts[i], i == 6 ? 0 : 1);
            bad(3, 1 + i, words);
            words[1 + i] = list(6 - i, sorts[i], (1 << 29) - 1);
            bad(3, 1 + i, words);
        }
    }

    private static void sorts() {
        String[] types = {"text t", "bytes s", "many bool b", "many E e", "many int i", "many uint u", "many zint z", "many fix f", "many long j", "many ulong w", "many zlong y", "many fixlong g", "many text k", "many bytes q", "many N n", "map<int, int> m"};
        int[] sorts = {2, 2, 1, 3, 4, 4, 4, 4, 5, 5, 5, 5, 6, 6, 7, 7};
        for (int i = 0; i < types.length; i++) {
            begin(types[i] + " @ 1;");
            for (int sort = 0; sort < 8; sort++) {
                if (sort != sorts[i]) {
                    bad(4, 1, rec(0, 0, 1), list(0, sort, 1), 0, 0);
                    bad(4, 1, rec(0, 0, 1), list(0, sort, 0), 0);
                }
            }
            if (i > 0) {
                good(0, "R{}", rec(0, 0, 1), list(0, sorts[i], 0), 0);
            }
        }
    }

    /** A list's own SORT tells how long it is. */
    private static void sortsInOrder() {
        begin("many long l @ 1;");
        long top = rec(0, 0, 1);
        bad(4, 1, top, list(0, 0, (1 << 29) - 1));
        bad(4, 1, top, list(0, 0, 5));
        bad(3, 1, top, list(1, 0, 0));
        bad(4, 1, top, list(0, 6, 0));
        bad(3, 1, top, list(0, 7, 0));
        bad(4, 1, top, list(0, 7, 0), 0);
        bad(3, 1, top, list(0, 7, 1), 0);
        bad(4, 1, top, list(0, 1, 64), 0);
        bad(3, 1, top, list(0, 1, 65), 0);
        bad(4, 1, top, list(0, 2, 8), 0);
        bad(3, 1, top, list(0, 2, 9), 0);
        bad(4, 1, top, list(0, 3, 4), 0);
        bad(3, 1, top, list(0, 3, 5), 0);
        bad(4, 1, top, list(0, 4, 2), 0);
        bad(3, 1, top, list(0, 4, 3), 0);
        bad(3, 1, top, list(0, 6, 2), 0);
        // 4 ahead of how many items there are
        begin("many bool l @ 1;");
        long[] words = new long[60];
        words[0] = top;
        words[1] = list(0, 2, 401);
        bad(4, 1, words);
        words[1] = list(0, 1, 401);
        bad(7, 1, words);
        words[1] = list(0, 1, 58 * 64 + 1);
        bad(3, 1, words);
    }

    /** Two pointers lead to one list of 199 pointers to nothing: with 202 data words 1000 are WALKED. */
    private static long[] twiceALists(int data) {
        long[] words = new long[1 + data + 2 + 199];
        words[0] = rec(0, data, 2);
        words[1 + data] = list(1, 6, 199);
        words[2 + data] = list(0, 6, 199);
        for (int i = 0; i < 199; i++) {
            words[3 + data + i] = list(0, 2, 0);
        }
        return words;
    }

    private static void walkedLists() {
        String parts = "many bytes a @ 1; many bytes b @ 2;";
        String list = "[\"\"" + Check.times(",\"\"", 198) + "]";
        begin(parts);
        good(400, "R{a:" + list + ",b:" + list + "}", twiceALists(202));
        long[] words = twiceALists(203);
        begin(parts);
        bad(7, 404, words);
        // 2, 3 and 4 come ahead
        words[404] = 2;
        begin(parts);
        bad(2, 404, words);
        words[404] = list(1, 2, 0);
        begin(parts);
        bad(3, 404, words);
        // a pointer of 0 walks nothing
        words[404] = 0;
        begin(parts);
        good(400, "R{a:" + list + ",b:" + list + "}", words);
        // what would be 4 at the last one is met when a leads to it
        words = twiceALists(203);
        words[404] = list(0, 0, 0);
        begin(parts);
        bad(4, 404, words);
    }

    /** A text that leads to the list of 398 pointers ahead of it: 897 words are WALKED without it. */
    private static void walkedText() {
        long[] words = new long[1 + 99 + 2 + 398];
        words[0] = rec(0, 99, 2);
        words[100] = list(1, 6, 398);
        for (int i = 0; i < 398; i++) {
            words[102 + i] = list(0, 2, 0);
        }
        String parts = "many bytes a @ 1; text t @ 2;";
        begin(parts);
        words[101] = list(0, 2, 103 * 8);
        c.load(0, Edges06Layouts.row(words));
        Check.due("1000 words", c.house.decode(0, 2, 2, 0, 1), 400);
        Check.due("BYTES", c.house.told(1, 3), 103 * 8 - 1);
        begin(parts);
        words[101] = list(0, 2, 102 * 8 + 1);
        bad(5, 101, words);
        begin(parts);
        words[101] = list(0, 2, 103 * 8 + 8);
        bad(7, 101, words);
        // 7 ahead of 5
        begin(parts);
        words[101] = list(0, 2, 103 * 8 + 1);
        bad(7, 101, words);
        begin(parts);
        words[101] = list(0, 4, 103 * 2 + 2);
        bad(4, 101, words);
    }

    /** Two lists of 199 records each of which leads to one without words, that walks one each. */
    private static void walkedRecords() {
        for (int data = 200; data <= 201; data++) {
            long[] words = new long[1 + data + 2 + 1 + 199];
            words[0] = rec(0, data, 2);
            words[1 + data] = list(1, 7, 199);
            words[2 + data] = list(0, 7, 199);
            words[3 + data] = rec(199, 0, 1);
            for (int i = 0; i < 199; i++) {
                words[4 + data + i] = rec(-1, 0, 0);
            }
            c = new Check();
            c.schema(0, "enum E { A = 1; } record N { } record R { many Q l @ 1; many Q k @ 2; } record Q { N n @ 1; }");
            // 1000 words: LARGE then, at 0
            bad(7, data == 200 ? 0 : 4 + 201 + 198, words);
        }
    }

    private static void items() {
        begin("many bool a @ 1; many bool b @ 2; many text t @ 3; text s @ 4;");
        long[] words = new long[200];
        words[0] = rec(0, 0, 4);
        words[1] = list(3, 1, 399);
        good(400, "R{a:[false" + Check.times(",false", 398) + "]}", words);
        words[1] = list(3, 1, 400);
        bad(7, 0, words);
        words[1] = list(3, 1, 401);
        bad(7, 1, words);
        begin("many bool a @ 1; many bool b @ 2; many text t @ 3; text s @ 4;");
        words[1] = list(3, 1, 400);
        words[2] = list(2, 1, 0);
        bad(7, 0, words);
        words[2] = list(2, 1, 1);
        bad(7, 2, words);
        words[1] = list(3, 1, 200);
        bad(7, 2, withTwo(words, 201));
        bad(7, 0, withTwo(words, 200));
        begin("many bool a @ 1; many bool b @ 2; many text t @ 3; text s @ 4;");
        words[1] = list(3, 1, 399);
        words[2] = 0;
        words[3] = list(1, 6, 1);
        bad(7, 0, words);
        words[3] = list(1, 6, 2);
        bad(7, 3, words);
        // a text's bytes are no items
        words[1] = 0;
        words[3] = 0;
        words[4] = list(0, 2, 901);
        good(1, "R{s:\"" + Check.times("\\x00", 900) + "\"}", words);
    }

    private static long[] withTwo(long[] words, int n) {
        words[2] = list(2, 1, n);
        return words;
    }

    private static void itemsOfRecords() {
        begin("many bool a @ 1; many N c @ 2; map<int, N> m @ 3;");
        long top = rec(0, 0, 3);
        good(400, "R{c:[{}" + Check.times(",{}", 398) + "]}", top, 0, list(1, 7, 0), 0, rec(399, 0, 0));
        bad(7, 0, top, 0, list(1, 7, 0), 0, rec(400, 0, 0));
        bad(7, 2, top, 0, list(1, 7, 0), 0, rec(401, 0, 0));
        // how many has no sign
        bad(7, 2, top, 0, list(1, 7, 0), 0, rec(-1, 0, 0));
        bad(7, 2, top, 0, list(1, 7, 0), 0, rec(1 << 29, 0, 0));
        bad(7, 2, top, list(3, 1, 1), list(1, 7, 0), 0, rec(400, 0, 0), 0);
        bad(7, 0, top, list(3, 1, 1), list(1, 7, 0), 0, rec(399, 0, 0), 0);
        bad(7, 3, top, list(3, 1, 399), list(1, 7, 0), list(9, 7, 0), rec(1, 0, 0), 0, 0, 0, 0, 0, 0, 0, 0, rec(1, 0, 0));
        bad(7, 3, top, 0, 0, list(0, 7, 0), rec(401, 0, 0));
        // of 400 items without key the second one is 10
        bad(10, 3, top, 0, 0, list(0, 7, 0), rec(400, 0, 0));
    }

    /** Records of one pointer each, one behind the other: word n is that of the record n deep. */
    private static long[] chain(int d, int p, long... last) {
        long[] words = new long[12 + last.length];
        for (int i = 0; i < 11; i++) {
            words[i] = rec(0, 0, 1);
        }
        words[11] = rec(0, d, p);
        System.arraycopy(last, 0, words, 12, last.length);
        return words;
    }

    private static final String TWELVE = "R{" + Check.times("r:{", 11) + Check.times("}", 12);
    private static final String DEEP = "R r @ 1; many R l @ 2; map<int, R> m @ 3; one o { R q @ 4; int i @ 5; } map<text, R> t @ 6;";

    private static void deepRecords() {
        begin(DEEP);
        good(11, TWELVE, chain(0, 1, 0));
        Check.due("12 deep", c.house.told(1, 4), 12);
        long[] last = chain(0, 0);
        last[11] = rec(-1, 0, 0);
        good(11, TWELVE, last);
        bad(6, 12, chain(0, 1, rec(-1, 0, 0)));
        bad(6, 12, chain(0, 1, rec(0, 0, 1), 0));
        bad(6, 12, chain(0, 1, rec(0, 1, 0), -1));
        // 2 and 3 come ahead
        bad(2, 12, chain(0, 1, list(0, 7, 0), 0));
        bad(2, 12, chain(0, 1, 2));
        bad(3, 12, chain(0, 1, rec(1, 0, 0)));
        bad(3, 12, chain(0, 1, rec(0, 1, 0)));
        // a record that leads to itself
        bad(6, 1, rec(0, 0, 1), rec(-1, 0, 1));
        bad(6, 2, rec(0, 0, 1), rec(0, 0, 1), rec(-2, 0, 1));
    }

    private static void deepLists() {
        begin(DEEP);
        good(11, TWELVE, chain(0, 2, 0, 0));
        bad(6, 13, chain(0, 2, 0, list(0, 7, 0), rec(1, 0, 0)));
        // also if it has none
        bad(6, 13, chain(0, 2, 0, list(0, 7, 0), rec(0, 0, 0)));
        bad(6, 13, chain(0, 2, 0, list(0, 7, 0), rec(0, 3, 3)));
        // ahead of 9, and of 7 for its items
        bad(6, 13, chain(0, 2, 0, list(0, 7, 0), 3));
        bad(6, 13, chain(0, 2, 0, list(0, 7, 1), rec(1, 0, 0), 0));
        bad(6, 13, chain(0, 2, 0, list(0, 7, 0), rec(401, 0, 0)));
        // behind 2, 3, 4
        bad(2, 13, chain(0, 2, 0, rec(0, 0, 0) | 4, 0));
        bad(3, 13, chain(0, 2, 0, list(0, 7, 0)));
        bad(4, 13, chain(0, 2, 0, list(0, 5, 0)));
        // eleven lists within one another
        begin("many R l @ 1;");
        long[] words = new long[25];
        words[0] = rec(0, 0, 1);
        for (int i = 0; i < 11; i++) {
            words[1 + 2 * i] = list(0, 7, 1);
            words[2 + 2 * i] = rec(1, 0, 1);
        }
        good(22, "R{" + Check.times("l:[{", 11) + Check.times("}]", 11) + "}", words);
        words[23] = list(0, 7, 0);
        bad(6, 23, words);
    }

    private static void deepMaps() {
        begin(DEEP);
        good(11, TWELVE, chain(0, 3, 0, 0, 0));
        // a MAP without items is no record
        good(11, TWELVE, chain(0, 3, 0, 0, list(0, 7, 0), rec(0, 1, 1)));
        bad(6, 17, chain(0, 3, 0, 0, list(0, 7, 2), rec(1, 1, 1), 5, 0));
        bad(6, 17, chain(0, 3, 0, 0, list(0, 7, 2), rec(1, 1, 1), 5, rec(-1, 0, 0)));
        bad(6, 17, chain(0, 3, 0, 0, list(0, 7, 4), rec(2, 1, 1), 5, 0, 5, 0));
        bad(2, 17, chain(0, 3, 0, 0, list(0, 7, 2), rec(1, 1, 1), 5, 1));
        bad(3, 17, chain(0, 3, 0, 0, list(0, 7, 2), rec(1, 1, 1), 5, rec(0, 1, 0)));
        // if it lacks, at its item's first byte
        bad(6, 16, chain(0, 3, 0, 0, list(0, 7, 1), rec(1, 1, 0), 5));
        bad(6, 16, chain(0, 3, 0, 0, list(0, 7, 0), rec(1, 0, 0)));
        bad(6, 16, chain(0, 3, 0, 0, list(0, 7, 0), rec(400, 0, 0)));
        bad(9, 15, chain(0, 3, 0, 0, list(0, 7, 0), 1));
        bad(7, 14, chain(0, 3, 0, 0, list(0, 7, 0), rec(401, 0, 0)));
        // the key first
        bad(5, 18, chain(0, 5, 0, 0, 0, 0, list(0, 7, 2), rec(1, 0, 2), list(0, 2, 0), 0));
        bad(6, 19, chain(0, 5, 0, 0, 0, 0, list(0, 7, 2), rec(1, 0, 2), 0, 0));
        bad(6, 18, chain(0, 5, 0, 0, 0, 0, list(0, 7, 1), rec(1, 0, 1), 0));
    }

    private static void deepOnes() {
        begin(DEEP);
        good(11, TWELVE, chain(1, 4, 0, 0, 0, 0, 0));
        good(11, TWELVE, chain(1, 4, 0, 0, 0, 0, 2));
        good(12, "R{" + Check.times("r:{", 11) + "i:0" + Check.times("}", 12), chain(1, 4, 2, 0, 0, 0, 2));
        bad(6, 16, chain(1, 4, 1, 0, 0, 0, rec(-1, 0, 0)));
        bad(6, 16, chain(1, 4, 1, 0, 0, 0, 0));
        bad(2, 16, chain(1, 4, 1, 0, 0, 0, 1));
        bad(3, 16, chain(1, 4, 1, 0, 0, 0, rec(5, 0, 0)));
        // if it lacks, at its record's first byte
        bad(6, 12, chain(1, 3, 1, 0, 0, 0));
        bad(6, 12, chain(1, 0, 1));
        bad(6, 12, chain(2, 0, 1, 0));
        bad(8, 12, chain(1, 0, 3));
        // pointers ahead of it come first
        bad(2, 13, chain(1, 3, 1, 2, 0, 0));
    }

    private static void tags() {
        begin("one o { int i @ 1; text t @ 2; } one p { N n @ 3; } text u @ 4;");
        long top = rec(0, 1, 0);
        good(0, "R{}", top, 0);
        good(1, "R{i:0}", top, 1);
        good(1, "R{t:\"\"}", top, 2);
        good(1, "R{n:{}}", top, 1 << 16);
        good(2, "R{i:0,n:{}}", top, 1 | 1 << 16);
        bad(8, 1, top, 3);
        bad(8, 1, top, 65535);
        bad(8, 1, top, 0x8000);
        bad(8, 1, top, 2 << 16);
        bad(8, 1, top, 0xffffL << 16);
        bad(8, 1, top, 3 | 2 << 16);
        bad(8, 3, rec(2, 1, 0), 0, 0, 3);
        // ahead of its pointers
        bad(8, 1, rec(0, 1, 3), 3, 2, 2, 2);
        bad(2, 2, rec(0, 1, 3), 2, 2, 2, 2);
        bad(2, 3, rec(0, 1, 3), 1 | 1 << 16, 2, 2, 2);
        bad(2, 4, rec(0, 1, 3), 1, 2, 2, 2);
        // pointer and place of what the TAG does not tell count for nothing
        good(0, "R{}", rec(0, 2, 2), 0, -1, 2, 3);
        good(1, "R{i:-1}", rec(0, 2, 2), 1, -1, 2, 3);
        good(1, "R{t:\"\"}", rec(0, 2, 1), 2, -1, 0);
        // a TAG that lacks is 0
        good(0, "R{}", rec(0, 0, 2), list(1, 2, 2), rec(-1, 0, 0), 'a');
    }

    private static void tagsWithin() {
        begin("one o { int i @ 1; N n @ 2; } R r @ 3; many R l @ 4; text t @ 5;");
        // TAG, 64 bits; n, r, l, t
        long top = rec(0, 2, 4);
        bad(8, 7, top, 0, 0, 0, rec(2, 1, 0), 0, 0, 3);
        bad(8, 8, top, 0, 0, 0, 0, list(1, 7, 2), 0, rec(2, 1, 0), 3, 3);
        bad(8, 9, top, 0, 0, 0, 0, list(1, 7, 2), 0, rec(2, 1, 0), 2, 3);
        // one record after the other
        bad(2, 9, top, 0, 0, 0, 0, list(1, 7, 4), 0, rec(2, 1, 1), 2, 3, 3, 0);
        bad(8, 8, top, 0, 0, 0, 0, list(1, 7, 4), 0, rec(2, 1, 1), 3, 3, 3, 0);
        // r with all that it leads to ahead of t
        bad(8, 7, top, 0, 0, 0, rec(2, 1, 0), 0, 2, 3);
        bad(2, 6, top, 0, 0, 0, rec(2, 1, 0), 0, 2, 1);
    }

    private static void firstWords() {
        c = new Check();
        c.schema(0, "enum E { A = 1; } record N { } record R { many Q l @ 1; map<int, int> m @ 2; many N n @ 3; } record Q { int a @ 1; text t @ 2; }");
        long top = rec(0, 0, 3);
        good(3, "R{l:[{},{}]}", top, list(2, 7, 4), 0, 0, rec(2, 1, 1), 0, 0, 0, 0);
        for (long bits = 1; bits < 4; bits++) {
            bad(9, 4, top, list(2, 7, 4), 0, 0, rec(2, 1, 1) | bits, 0, 0, 0, 0);
            bad(9, 4, top, list(2, 7, 0), 0, 0, bits);
            bad(9, 4, top, 0, list(1, 7, 0), 0, bits);
        }
        for (int w = 0; w < 8; w++) {
            if (w != 4) {
                bad(9, 4, top, list(2, 7, w), 0, 0, rec(2, 1, 1), 0, 0, 0, 0, 0, 0, 0);
                bad(9, 4, top, 0, list(1, 7, w), 0, rec(2, 2, 0), 0, 0, 1, 0, 0, 0, 0);
            }
        }
        bad(9, 4, top, list(2, 7, 1), 0, 0, rec(0, 1, 1), 0);
        bad(9, 4, top, list(2, 7, 1), 0, 0, rec(1, 0, 0), 0);
        good(0, "R{}", top, list(2, 7, 0), 0, 0, rec(0, 9, 9));
        // 2 ^ 29 times 8 are no words in 32 bits
        bad(9, 4, top, list(2, 7, 0), 0, 0, rec(1 << 29, 8, 0));
        bad(9, 4, top, list(2, 7, 0), 0, 0, rec(1 << 29, 0, 8));
        bad(9, 4, top, list(2, 7, 0), 0, 0, rec(-1, 65535, 65535));
        bad(9, 4, top, list(2, 7, 1), 0, 0, rec((1 << 29) + 1, 0, 0), 0);
        // 9 ahead of 7 for its items
        bad(9, 4, top, list(2, 7, 1), 0, 0, rec(401, 0, 0), 0);
        bad(9, 4, top, list(2, 7, 0), 0, 0, rec(401, 1, 0));
        bad(7, 1, top, list(2, 7, 0), 0, 0, rec(401, 0, 0));
        // records of more words, and of fewer
        good(4, "R{l:[{a:1},{}]}", top, list(2, 7, 6), 0, 0, rec(2, 2, 1), 1, 2, 0, 0, -1, 0);
        good(3, "R{l:[{a:7}]}", top, list(2, 7, 3), 0, 0, rec(1, 1, 2), 7, 0, 2);
        good(3, "R{l:[{},{}]}", top, list(2, 7, 0), 0, 0, rec(2, 0, 0));
    }

    private static void keysRise() {
        begin("map<int, int> m @ 1; map<text, int> t @ 2; map<ulong, int> w @ 3; map<uint, bool> u @ 4;");
        // keys and items of m in one word, of t an item and a pointer, of w two words
        long top = rec(0, 0, 4);
        good(5, "R{m:<-1:2,1:3>}", top, list(3, 7, 2), 0, 0, 0, rec(2, 1, 0), 0x2ffffffffL, 0x300000001L);
        bad(10, 1, top, list(3, 7, 2), 0, 0, 0, rec(2, 1, 0), 1, 0xffffffffL);
        bad(10, 1, top, list(3, 7, 2), 0, 0, 0, rec(2, 1, 0), 5, 5);
        bad(10, 1, top, list(3, 7, 3), 0, 0, 0, rec(3, 1, 0), 5, 6, 5);
        bad(10, 1, top, list(3, 7, 3), 0, 0, 0, rec(3, 1, 0), 5, 6, 6);
        bad(10, 1, top, list(3, 7, 0), 0, 0, 0, rec(2, 0, 0));
        good(3, "R{m:<0:0>}", top, list(3, 7, 0), 0, 0, 0, rec(1, 0, 0));
        good(5, "R{t:<\"\":0,\"a\":0>}", top, 0, list(2, 7, 2), 0, 0, rec(2, 0, 1), 0, list(0, 2, 2), 'a');
        bad(10, 2, top, 0, list(2, 7, 2), 0, 0, rec(2, 0, 1), list(1, 2, 2), 0, 'a');
        bad(10, 2, top, 0, list(2, 7, 2), 0, 0, rec(2, 0, 1), list(1, 2, 2), list(0, 2, 2), 'a');
        bad(10, 2, top, 0, list(2, 7, 2), 0, 0, rec(2, 0, 1), 0, list(0, 2, 1), 0);
        bad(10, 2, top, 0, list(2, 7, 2), 0, 0, rec(2, 0, 1), list(1, 2, 3), list(0, 2, 2), 'a');
        good(5, "R{t:<\"xb\":0,\"xc\":0>}", top, 0, list(2, 7, 2), 0, 0, rec(2, 0, 1), list(1, 2, 3), list(1, 2, 3), 0x6278, 0x6378);
        bad(10, 2, top, 0, list(2, 7, 2), 0, 0, rec(2, 0, 1), list(1, 2, 3), list(1, 2, 3), 0x6378, 0x6278);
        bad(10, 2, top, 0, list(2, 7, 2), 0, 0, rec(2, 0, 1), list(1, 2, 3), list(1, 2, 3), 0x6278, 0x6278);
        good(5, "R{w:<1:0,9223372036854775808:0>}", top, 0, 0, list(1, 7, 4), 0, rec(2, 2, 0), 1, 0, Long.MIN_VALUE, 0);
        bad(10, 3, top, 0, 0, list(1, 7, 4), 0, rec(2, 2, 0), Long.MIN_VALUE, 0, 1, 0);
        good(5, "R{u:<1:true,4294967295:false>}", top, 0, 0, 0, list(0, 7, 2), rec(2, 1, 0), 0x100000001L, 0xffffffffL);
        bad(10, 4, top, 0, 0, 0, list(0, 7, 2), rec(2, 1, 0), 0xffffffffL, 1);
    }

    /** Of a MAP each item's key, then what it leads to. */
    private static void keysInTurn() {
        begin("map<text, text> t @ 1; map<int, text> i @ 2;");
        long top = rec(0, 0, 2);
        // what is wrong within the second key comes ahead of its order
        bad(5, 6, top, list(1, 7, 4), 0, rec(2, 0, 2), list(3, 2, 2), 0, list(1, 2, 1), 0, 'a');
        bad(2, 6, top, list(1, 7, 4), 0, rec(2, 0, 2), list(3, 2, 2), 0, 2, 0, 'a');
        // the first one's item ahead of the second key
        bad(2, 5, top, list(1, 7, 4), 0, rec(2, 0, 2), list(3, 2, 2), 2, 0, 0, 'a');
        // the key's order ahead of its own item
        bad(10, 1, top, list(1, 7, 4), 0, rec(2, 0, 2), list(3, 2, 2), 0, 0, 2, 'a');
        bad(10, 2, top, 0, list(0, 7, 4), rec(2, 1, 1), 5, 0, 5, 2);
        bad(2, 7, top, 0, list(0, 7, 4), rec(2, 1, 1), 5, 0, 6, 2);
        bad(2, 5, top, 0, list(0, 7, 4), rec(2, 1, 1), 5, 2, 5, 2);
        bad(5, 5, top, 0, list(0, 7, 2), rec(1, 1, 1), 5, list(0, 2, 0));
    }

    private static void texts() {
        begin("text t @ 1 = \"abc\"; bytes s @ 2;");
        long top = rec(0, 0, 2);
        good(0, "R{}", top, 0, 0);
        good(0, "R{}", top, list(1, 2, 4), 0, 0x636261);
        good(1, "R{t:\"\"}", top, list(1, 2, 1), 0, 0);
        good(1, "R{t:\"\\x00\"}", top, list(1, 2, 2), 0, 0);
        good(1, "R{t:\"a\"}", top, list(1, 2, 2), 0, 'a');
        // what is behind the text in its word counts for nothing
        good(1, "R{t:\"a\"}", top, list(1, 2, 2), 0, 0xffffffffffff0061L);
        bad(5, 1, top, list(1, 2, 0), 0);
        bad(5, 1, top, list(-1, 2, 0), 0);
        bad(5, 1, top, list(1, 2, 1), 0, 'a');
        bad(5, 1, top, list(1, 2, 2), 0, 0x6161);
        bad(5, 1, top, list(1, 2, 2), 0, 0x8000);
        bad(5, 1, top, list(1, 2, 2), 0, 0x80);
        bad(5, 1, top, list(1, 2, 2), 0, 0xc3);
        good(1, "R{t:\"\\xc3\\xa9\"}", top, list(1, 2, 3), 0, 0xa9c3);
        bad(5, 1, top, list(1, 2, 3), 0, 0x80c0);
        bad(5, 1, top, list(1, 2, 4), 0, 0x80a0ed);
        bad(5, 1, top, list(1, 2, 5), 0, 0x808090f4L);
        bad(5, 1, top, list(1, 2, 9), 0, 0, 1);
        good(1, "R{t:\"" + Check.times("\\x00", 8) + "\"}", top, list(1, 2, 9), 0, 0, 0);
        // bytes are what they are
        good(0, "R{}", top, 0, list(0, 2, 0));
        good(1, "R{s:\"\\xff\"}", top, 0, list(0, 2, 1), 0xff);
        good(1, "R{s:\"\\x00\"}", top, 0, list(0, 2, 1), 0);
    }

    private static void textsOfAll() {
        begin("many text l @ 1; map<text, int> k @ 2; map<int, text> i @ 3; maybe text m @ 4; one o { text t @ 5; } R r @ 6;");
        // FLAG of m 0, TAG 16; l, k, i, m, o, r
        long top = rec(0, 1, 6);
        bad(5, 8, top, 0, list(5, 6, 1), 0, 0, 0, 0, 0, list(-1, 2, 0));
        bad(5, 9, top, 0, list(5, 6, 2), 0, 0, 0, 0, 0, 0, list(0, 2, 1), 1);
        bad(5, 9, top, 0, 0, list(4, 7, 1), 0, 0, 0, 0, rec(1, 0, 1), list(0, 2, 1), 1);
        bad(5, 10, top, 0, 0, 0, list(3, 7, 2), 0, 0, 0, rec(1, 1, 1), 5, list(0, 2, 1), 1);
        bad(5, 5, top, 1, 0, 0, 0, list(2, 2, 1), 0, 0, 1);
        good(0, "R{}", top, 0, 0, 0, 0, list(2, 2, 1), 0, 0, 1);
        bad(5, 6, top, 1 << 16, 0, 0, 0, 0, list(1, 2, 1), 0, 1);
        good(0, "R{}", top, 0, 0, 0, 0, 0, list(1, 2, 1), 0, 1);
        bad(5, 12, top, 0, 0, 0, 0, 0, 0, rec(0, 1, 6), 1, 0, 0, 0, list(-1, 2, 0), 0, 0);
    }

    private static void flagsNotSet() {
        begin("maybe int i @ 1; maybe text t @ 2; maybe bytes s @ 3; maybe bool b @ 4;");
        // FLAGS 0, 1, 2, 3; i 32, b 4; t, s
        good(0, "R{}", rec(0, 1, 2), -16, 2, 7);
        good(0, "R{}", rec(0, 0, 2), list(1, 2, 2), list(0, 2, 2), 'a');
        good(1, "R{i:-1}", rec(0, 1, 2), -16 | 1, 2, 7);
        good(1, "R{t:\"\"}", rec(0, 1, 2), 2, 0, 7);
        good(1, "R{s:\"\"}", rec(0, 1, 2), 4, 2, 0);
        good(1, "R{s:\"\"}", rec(0, 1, 2), 4, 2, list(0, 2, 0));
        good(2, "R{t:\"\",s:\"\"}", rec(0, 1, 0), 6);
        good(1, "R{b:false}", rec(0, 1, 0), 8);
        good(1, "R{b:true}", rec(0, 1, 0), 24);
        good(4, "R{i:0,t:\"\",s:\"\",b:false}", rec(0, 1, 0), 15);
        bad(2, 2, rec(0, 1, 2), 2, 2, 7);
        bad(2, 3, rec(0, 1, 2), 4, 2, 7);
    }

    private static void lowestBits() {
        begin("one o { bool b @ 1; int i @ 2; uint u @ 3; E e @ 4; long j @ 5; zint z @ 6; fix f @ 7; ulong w @ 8; }");
        long top = rec(0, 2, 0);
        good(1, "R{b:false}", top, 1, 0);
        good(1, "R{b:true}", top, 1, 1);
        good(1, "R{b:true}", top, 1, 2);
        good(1, "R{b:true}", top, 1, Long.MIN_VALUE);
        good(1, "R{i:5}", top, 2, 0x700000005L);
        good(1, "R{i:-2147483648}", top, 2, 0x80000000L);
        good(1, "R{i:0}", top, 2, 1L << 32);
        good(1, "R{u:4294967295}", top, 3, -1);
        good(1, "R{u:0}", top, 3, 1L << 32);
        good(1, "R{e:A}", top, 4, 0x10001);
        good(1, "R{e:-32768}", top, 4, 0x8000);
        good(1, "R{e:-1}", top, 4, 0xffff);
        good(1, "R{e:0}", top, 4, 0x10000);
        good(1, "R{j:-9223372036854775808}", top, 5, Long.MIN_VALUE);
        good(1, "R{z:-1}", top, 6, 0xffffffffL);
        good(1, "R{f:4294967295}", top, 7, -1);
        good(1, "R{w:18446744073709551615}", top, 8, -1);
        bad(8, 1, top, 9, 0);
    }

    private static void bitsBehind() {
        begin("many bool b @ 1; many E e @ 2; many int i @ 3; E x @ 4; map<int, E> m @ 5;");
        // x is 16 bits of a word; b, e, i, m
        long top = rec(0, 1, 4);
        good(4, "R{b:[true,true,true]}", top, 0, list(3, 1, 3), 0, 0, 0, -1);
        good(2, "R{e:[-1]}", top, 0, 0, list(2, 3, 1), 0, 0, -1);
        good(2, "R{e:[0]}", top, 0, 0, list(2, 3, 1), 0, 0, 0);
        good(2, "R{i:[-1]}", top, 0, 0, 0, list(1, 4, 1), 0, -1);
        // xor the first constant, 1; nothing in a MAP
        good(1, "R{x:0}", top, 1, 0, 0, 0, 0);
        good(1, "R{x:5}", top, 4 | 7L << 16, 0, 0, 0, 0);
        good(3, "R{m:<0:0>}", top, 0, 0, 0, 0, list(0, 7, 0), rec(1, 0, 0));
        good(3, "R{m:<-1:B>}", top, 0, 0, 0, 0, list(0, 7, 1), rec(1, 1, 0), -1L >>> 32 | 0x7ffffffeL << 32 | 1L << 47);
    }

    private static void pointersOfZero() {
        begin("many text t @ 1; many bytes s @ 2; map<text, bytes> m @ 3; map<int, N> n @ 4; one o { N a @ 5; text b @ 6; bytes c @ 7; R d @ 8; } text x @ 9 = \"x\";");
        // TAG 0; t, s, m, n, o, x
        long top = rec(0, 1, 4);
        good(3, "R{t:[\"\",\"\"]}", top, 0, list(3, 6, 2), 0, 0, 0, 0, 0);
        good(2, "R{s:[\"\"]}", top, 0, 0, list(2, 6, 1), 0, 0, 0);
        good(3, "R{m:<\"\":\"\">}", top, 0, 0, 0, list(1, 7, 2), 0, rec(1, 0, 2), 0, 0);
        good(3, "R{n:<5:{}>}", top, 0, 0, 0, 0, list(0, 7, 2), rec(1, 1, 1), 5, 0);
        good(1, "R{a:{}}", top, 1, 0, 0, 0, 0);
        good(1, "R{b:\"\"}", top, 2, 0, 0, 0, 0);
        good(1, "R{c:\"\"}", top, 3, 0, 0, 0, 0);
        good(1, "R{d:{}}", top, 4, 0, 0, 0, 0);
        good(1, "R{d:{}}", rec(0, 1, 5), 4, 0, 0, 0, 0, 0);
        bad(8, 1, top, 5, 0, 0, 0, 0);
    }

    /** The first fault as things are come to: a pointer with all that it leads to, then the next. */
    private static void inTurn() {
        begin("R r @ 1; text t @ 2; many R l @ 3;");
        long top = rec(0, 0, 3);
        bad(5, 5, top, rec(2, 0, 2), 2, 2, 0, list(-1, 2, 0));
        bad(2, 2, top, rec(2, 0, 2), 2, 2, 0, 0);
        bad(2, 3, top, rec(2, 0, 2), 0, 2, 0, 0);
        bad(5, 6, top, 0, 0, list(0, 7, 4), rec(2, 0, 2), 0, list(-1, 2, 0), 2, 2);
        bad(2, 7, top, 0, 0, list(0, 7, 4), rec(2, 0, 2), 0, 0, 2, 2);
        // two pointers may lead to the same words
        good(3, "R{r:{t:\"a\"},t:\"a\"}", top, rec(2, 0, 2), list(3, 2, 2), 0, 0, list(0, 2, 2), 'a');
    }

    private static void large() {
        String parts = "bytes s @ 1; many bytes l @ 2; one o { bytes b @ 3; } R r @ 4;";
        long[] words = new long[280];
        words[0] = rec(0, 1, 4);
        words[2] = list(3, 2, 2000);
        begin(parts);
        Arrays.fill(words, 6, 280, 0x4141414141414141L);
        good(1, "R{s:\"" + Check.times("A", 2000) + "\"}", words);
        words[2] = list(3, 2, 2001);
        begin(parts);
        bad(7, 0, words);
        // one byte more of an item, of a one
        words[2] = list(3, 2, 2000);
        words[3] = list(273, 6, 1);
        begin(parts);
        words[277] = 0;
        c.load(0, Edges06Layouts.row(words));
        Check.due("an item without bytes", c.house.decode(0, 2, 2, 0, 1), 3);
        words[277] = list(0, 2, 1);
        bad(7, 0, words);
        begin(parts);
        words[3] = 0;
        words[1] = 1;
        words[4] = list(273, 2, 1);
        bad(7, 0, words);
        // behind all else
        begin(parts);
        words[5] = 2;
        bad(2, 5, words);
    }

    private static void stays() {
        begin("int i @ 1;");
        c.read(0, 0, "R{i:77}");
        c.load(0, Check.word(2));
        for (int m : new int[] {0, 5}) {
            c.fault("a fault", c.house.decode(0, 2, 2, 0, m), 2, 0);
        }
        c.printed("m stays", 0, "R{i:77}");
        Check.due("a fault makes no message", c.house.told(5, 0), Check.NO);
        c.bytes("the row stays", 0, Check.word(2));
    }
}
