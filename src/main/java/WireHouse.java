/**
 * A house for wires: schemas and messages read from texts, three formats, judged schemas, and
 * calls over a net that loses, doubles and reorders. What each call does is said in the
 * document's promises; words in capitals (LARGE, DEEP, LAYOUT, ..) are the document's.
 */
public final class WireHouse {
    public static final int BAD = -1, NO = -2, FULL = -3;

    private static final int ROOM = 4000, SCHEMAS = 4, MESSAGES = 12, ROWS = 8;
    private static final int CLIENTS = 3, SERVER = 3, CALLS = 40;
    private static final int MOST_VALUES = 400, MOST_BYTES = 2000, MOST_DEEP = 12;
    /** A bound for loops that end long before it, as the rooms they go through do. */
    private static final int TURNS = 1000000;
    /** How deep a tree of nodes can be: 12 records, each with a list on the way, and some. */
    private static final int LEVELS = 40;

    private static final int BOOL = 0, INT = 1, UINT = 2, ZINT = 3, FIX = 4, LONG = 5, ULONG = 6,
        ZLONG = 7, FIXLONG = 8, TEXT = 9, BYTES = 10, ENUM = 11, RECORD = 12;
    private static final int SINGLE = 0, MAYBE = 1, MANY = 2, MAP = 3;
    private static final int STREAM = 0, LINEAR = 1;

    /** Kinds of tokens; a sign of one byte is a kind of its own, words follow W_ENUM. */
    private static final int T_END = 0, T_BROKEN = 1, T_NAME = 2, T_NUMBER = 3, T_STRING = 4,
        T_SAME = 300, T_OTHER = 301, T_LESS_SAME = 302, T_MORE_SAME = 303;
    private static final int W_ENUM = 200, W_RECORD = 201, W_SERVICE = 202, W_ONE = 203,
        W_KEEP = 204, W_MANY = 205, W_MAYBE = 206, W_MAP = 207, W_CALL = 208, W_CELL = 209,
        W_IN = 210, W_OUT = 211, W_FAIL = 212, W_BOOL = 213, W_BYTES = 223, W_TRUE = 224,
        W_FALSE = 225;
    private static final String WORDS = "enum record service one keep many maybe map call cell in out fail bool int uint zint fix long ulong zlong fixlong text bytes true false ";

    /** Columns of a schema's tables; those that the face asks for bear its numbers. */
    private static final int TY_SORT = 0, TY_COUNT = 1, TY_ONES = 2, TY_DATA = 3, TY_POINTERS = 4,
        TY_NAME = 5, TY_NAME_LEN = 6, TY_TEXT = 7, TY_TEXT_END = 8;
    private static final int F_NUMBER = 0, F_MODE = 1, F_KIND = 2, F_TYPE = 3, F_KEY = 4,
        F_ONE = 5, F_PLACE = 6, F_POINTER = 7, F_FLAG = 8, F_NAME = 9, F_NAME_LEN = 10,
        F_DEFAULT = 11, F_DEFAULT_AT = 12, F_DEFAULT_LEN = 13, F_RANK = 14, F_ORDER = 15,
        F_TAG = 16;
    private static final int O_NAME = 0, O_NAME_LEN = 1, O_FIRST = 2, O_COUNT = 3, O_LEAST = 4;
    private static final int S_CALLS = 0, S_CELLS = 1, S_NAME = 2, S_NAME_LEN = 3, S_TEXT = 4,
        S_TEXT_END = 5;
    private static final int C_NAME = 0, C_NAME_LEN = 1, C_NUMBER = 2, C_IN = 3, C_OUT = 4,
        C_STEPS = 5, C_NODES = 6, C_FIRST_STEP = 7;
    private static final int ST_SORT = 0, ST_TARGET = 1, ST_FROM = 2, ST_TO = 3;
    private static final int N_OP = 0, N_ARG = 1;
    private static final int STEP_CELL = 0, STEP_OUT = 1, STEP_FAIL = 2;
    private static final int OP_NUMBER = 0, OP_CELL = 1, OP_IN = 2, OP_MINUS = 3, OP_NOT = 4,
        OP_ADD = 5, OP_SUBTRACT = 6, OP_TIMES = 7, OP_DIVIDE = 8, OP_REST = 9, OP_SAME = 10,
        OP_OTHER = 11, OP_LESS = 12, OP_LESS_SAME = 13, OP_MORE = 14, OP_MORE_SAME = 15;

    /** Columns of a tree's nodes, and the shapes that nodes have. */
    private static final int NEXT = 0, HEAD = 1, TAIL = 2, TAG = 3, SHAPE = 4, NUM = 5, OFF = 6,
        LEN = 7, KEY = 8, KEY_OFF = 9, KEY_LEN = 10;
    private static final int A_NUMBER = 1, A_STRING = 2, A_RECORD = 3, A_LIST = 4, A_MAP = 5,
        A_STRANGER = 6;
    private static final int ROOT = 1, STRANGER = 99;

    /** Columns of the net's tables. */
    private static final int L_TO = 0, L_FROM = 1, L_XID = 2, L_PART = 3, L_OF = 4, L_LEN = 5;
    private static final int K_STATE = 0, K_CODE = 1, K_SENT = 2, K_PLACE = 3, K_LAST = 4;
    private static final int CL_SCHEMA = 0, CL_SERVICE = 1, CL_MADE = 2, CL_BASE = 3, CL_THERE = 4,
        CL_NEXT = 5;
    private static final int G_OF = 0, G_GOT = 1, G_MASK = 2;
    private static final int P_CLIENT = 0, P_XID = 1, P_TOUCH = 2, P_THERE = 3;
    private static final int LETTERS = 60, PART = 48, WAITS = 0, ANSWERED = 1, FAILED = 2,
        GIVEN_UP = 3;
    private static final long MARK_FIRST = 0xcbf29ce484222325L;

    private static boolean isNumber(int kind) {
        return kind >= BOOL && kind <= FIXLONG || kind == ENUM;
    }

    /** How many bits numbers of a kind have. */
    private static int bitsOf(int kind) {
        return kind == BOOL ? 1 : kind == ENUM ? 16 : kind <= FIX ? 32 : 64;
    }

    /** The WIRE of a kind in STREAMS. */
    private static int wireOf(int kind) {
        return !isNumber(kind) ? 2 : kind == FIX ? 5 : kind == FIXLONG ? 1 : 0;
    }

    /** The lowest bits of a number that a kind has; of bool whether any is not 0. */
    private static long narrow(int kind, long v) {
        switch (kind) {
            case BOOL: return v != 0 ? 1 : 0;
            case INT: return (int) v;
            case ZINT: return (int) v;
            case UINT: return v & 0xffffffffL;
            case FIX: return v & 0xffffffffL;
            case ENUM: return (short) v;
            default: return v;
        }
    }

    /** Whether an INT that a text tells is one of a kind's numbers. */
    private static boolean isWithin(int kind, long v) {
        if (kind == ULONG || kind == FIXLONG) {
            return v >= 0;
        }
        return narrow(kind, v) == v;
    }

    private static boolean hasSign(int kind) {
        return kind == INT || kind == ZINT || kind == LONG || kind == ZLONG || kind == ENUM;
    }

    /** Whether all of one kind's numbers are among those of another. */
    private static boolean hasNumbers(int wide, int kind) {
        if (hasSign(wide)) {
            return bitsOf(wide) > bitsOf(kind) || hasSign(kind) && bitsOf(wide) == bitsOf(kind);
        }
        return !hasSign(kind) && bitsOf(wide) >= bitsOf(kind);
    }

    /** The ORDER of two keys of a number's kind. */
    private static int compareNumbers(int kind, long a, long b) {
        boolean unsigned = kind == ULONG || kind == FIXLONG;
        long turn = unsigned ? Long.MIN_VALUE : 0;
        return Long.compare(a ^ turn, b ^ turn);
    }

    private final Bytes tape;
    private final Bytes[] rows = new Bytes[ROWS];
    private final Schema[] schemas = new Schema[SCHEMAS];
    private final Tree[] messages = new Tree[MESSAGES];
    /** The schema that is read next, and takes the place of one that becomes the next. */
    private Schema spare;
    private final Lexer lexer;
    private final SchemaReader reader;
    private final Texts texts;
    private final Serial serial;
    private final Slotted slotted;
    private final Judge judging;
    private final Net post;
    /**
     * Messages that are worked on, and rows that are written, ahead of what they become. What is
     * READ makes two nodes for a byte at most (of a STREAM's MAP without key and item), and many
     * of them may be gone again in the end: only so much room is enough for what is not LARGE.
     */
    private final Tree work, made = new Tree(MOST_VALUES + 2, ROOM);
    private final Bytes wire, body = new Bytes(4 * ROOM);
    private int latestPlace = NO;
    /** The place of the latest fault of what was READ. */
    private int wirePlace;
    private long latestNumber;

    public WireHouse() {
        for (int i = 0; i < ROWS; i++) {
            rows[i] = new Bytes(ROOM);
        }
        for (int i = 0; i < SCHEMAS; i++) {
            schemas[i] = new Schema();
        }
        for (int i = 0; i < MESSAGES; i++) {
            messages[i] = new Tree(MOST_VALUES + 2, MOST_BYTES);
        }
        Bytes text = new Bytes(ROOM);
        Bytes bytes = new Bytes(4 * ROOM);
        Schema empty = new Schema();
        Tree tree = new Tree(2 * ROOM + 2 * MOST_VALUES, 3 * ROOM);
        Lexer tokens = new Lexer(text);
        tape = text;
        wire = bytes;
        spare = empty;
        work = tree;
        lexer = tokens;
        reader = new SchemaReader(tokens, empty);
        texts = new Texts(tokens, empty, tree, bytes);
        serial = new Serial(empty, tree, bytes);
        slotted = new Slotted(empty, tree, bytes);
        judging = new Judge(empty, tree);
        post = new Net();
    }

    private static boolean isRow(int row) {
        return row >= 0 && row < ROWS;
    }

    private static boolean isSchema(int s) {
        return s >= 0 && s < SCHEMAS;
    }

    private static boolean isMessage(int m) {
        return m >= 0 && m < MESSAGES;
    }

    private static boolean isClient(int c) {
        return c >= 0 && c < CLIENTS;
    }

    private static boolean isFormat(int format) {
        return format >= 0 && format <= 2;
    }

    // ---- the tape and rows

    public int feed(int a, int b, int c, int d, int e) {
        if (tape.n + 20 > ROOM) {
            return FULL;
        }
        tape.addBig(a, 4);
        tape.addBig(b, 4);
        tape.addBig(c, 4);
        tape.addBig(d, 4);
        tape.addBig(e, 4);
        return tape.n;
    }

    public int cut(int n) {
        if (n < 0 || n > tape.n) {
            return BAD;
        }
        tape.n -= n;
        return tape.n;
    }

    public int load(int row) {
        if (!isRow(row)) {
            return BAD;
        }
        rows[row].become(tape);
        tape.empty();
        return rows[row].n;
    }

    public int unload(int row) {
        if (!isRow(row)) {
            return BAD;
        }
        if (tape.n + rows[row].n > ROOM) {
            return FULL;
        }
        tape.addAll(rows[row], 0, rows[row].n);
        return tape.n;
    }

    public int size(int row) {
        return isRow(row) ? rows[row].n : BAD;
    }

    public int octet(int row, int i) {
        return isRow(row) && i >= 0 && i < rows[row].n ? rows[row].at(i) : BAD;
    }

    public int alter(int row, int i, int mask) {
        if (!isRow(row) || i < 0 || i >= rows[row].n || mask < 0 || mask > 255) {
            return BAD;
        }
        rows[row].change(i, rows[row].at(i) ^ mask);
        return rows[row].at(i);
    }

    public int equal(int a, int b) {
        if (!isRow(a) || !isRow(b)) {
            return BAD;
        }
        return rows[a].matches(0, rows[a].n, rows[b], 0, rows[b].n) ? 1 : 0;
    }

    // ---- schemas

    public int schema(int s) {
        if (!isSchema(s)) {
            return BAD;
        }
        lexer.scan(tape);
        reader.readInto(spare);
        if (reader.fault != 0) {
            latestPlace = reader.place;
            return -10 - reader.fault;
        }
        latestPlace = NO;
        Schema before = schemas[s];
        schemas[s] = spare;
        spare = before;
        for (int m = 0; m < MESSAGES; m++) {
            if (messages[m].schema == s) {
                messages[m].there = false;
            }
        }
        post.letGo(s);
        return schemas[s].typeCount;
    }

    public int place() {
        return latestPlace;
    }

    public int types(int s, int what) {
        if (!isSchema(s) || what < 0 || what > 1) {
            return BAD;
        }
        if (!schemas[s].there) {
            return NO;
        }
        return what == 0 ? schemas[s].typeCount : schemas[s].serviceCount;
    }

    public int type(int s, int k, int what) {
        if (!isSchema(s) || k < 0 || what < 0 || what > TY_POINTERS) {
            return BAD;
        }
        if (!schemas[s].there) {
            return NO;
        }
        return k < schemas[s].typeCount ? schemas[s].types.at(k, what) : BAD;
    }

    public int field(int s, int k, int j, int what) {
        if (!isSchema(s) || k < 0 || j < 0 || what < 0 || what > F_FLAG) {
            return BAD;
        }
        Schema sc = schemas[s];
        if (!sc.there) {
            return NO;
        }
        boolean has = j < sc.fieldCount(k) && (sc.isRecord(k) || what == 0);
        return has ? sc.fields.at(k, j, what) : BAD;
    }

    public int name(int s, int sort, int k, int j, int i) {
        boolean alone = sort == 0 || sort == 3;
        if (!isSchema(s) || sort < 0 || sort > 5 || k < 0 || i < 0 || !alone && j < 0) {
            return BAD;
        }
        Schema sc = schemas[s];
        if (!sc.there) {
            return NO;
        }
        switch (sort) {
            case 0: return k < sc.typeCount ? nameByte(sc, sc.types, 0, k, TY_NAME, i) : BAD;
            case 1: return j < sc.fieldCount(k) ? nameByte(sc, sc.fields, k, j, F_NAME, i) : BAD;
            case 2: return j < sc.oneCount(k) ? nameByte(sc, sc.ones, k, j, O_NAME, i) : BAD;
            case 3: return k < sc.serviceCount ? nameByte(sc, sc.services, 0, k, S_NAME, i) : BAD;
            case 4: return j < sc.callCount(k) ? nameByte(sc, sc.calls, k, j, C_NAME, i) : BAD;
            default: return j < sc.cellCount(k) ? nameByte(sc, sc.cells, k, j, 0, i) : BAD;
        }
    }

    /** A NAME's length stands in the column behind where it begins. */
    private static int nameByte(Schema sc, Table table, int g, int r, int column, int i) {
        return i < table.at(g, r, column + 1) ? sc.text.at(table.at(g, r, column) + i) : BAD;
    }

    public int service(int s, int v, int j, int what) {
        if (!isSchema(s) || v < 0 || what < 0 || what > 6 || what >= 2 && j < 0) {
            return BAD;
        }
        Schema sc = schemas[s];
        if (!sc.there) {
            return NO;
        }
        if (v >= sc.serviceCount || what >= 2 && j >= sc.callCount(v)) {
            return BAD;
        }
        return what < 2 ? sc.services.at(v, what) : sc.calls.at(v, j, what);
    }

    public int describe(int s, int row) {
        if (!isSchema(s) || !isRow(row)) {
            return BAD;
        }
        Schema sc = schemas[s];
        if (!sc.there) {
            return NO;
        }
        int n = Math.max(0, sc.text.n - 1);
        if (n > ROOM) {
            return FULL;
        }
        rows[row].empty();
        rows[row].addAll(sc.text, 0, n);
        return n;
    }

    public long mark(int s, int sort, int k) {
        if (!isSchema(s) || !schemas[s].there || k < 0) {
            return 0;
        }
        if (sort == 0 && k < schemas[s].typeCount) {
            return schemas[s].typeMark(k);
        }
        return sort == 1 && k < schemas[s].serviceCount ? schemas[s].serviceMark(k) : 0;
    }

    // ---- messages

    /** What was read or PUT stands in the work tree: it becomes message m, if it may. */
    private int finish(int m, int fault, int at, int largeFault) {
        if (fault == 0) {
            work.tally();
        }
        boolean large = fault == 0 && work.isLarge();
        if (fault != 0 || large) {
            latestPlace = large ? 0 : at;
            return -10 - (large ? largeFault : fault);
        }
        latestPlace = NO;
        messages[m].become(work);
        return work.values;
    }

    public int read(int s, int m) {
        if (!isSchema(s) || !isMessage(m)) {
            return BAD;
        }
        if (!schemas[s].there) {
            return NO;
        }
        lexer.scan(tape);
        texts.takeMessage(schemas[s], s, work);
        return finish(m, texts.fault, texts.place, 3);
    }

    /** The schema of a message that is there. */
    private Schema schemaOf(int m) {
        int s = messages[m].schema;
        return isSchema(s) ? schemas[s] : spare;
    }

    private int copyWire(int row) {
        if (wire.isOver(ROOM)) {
            return FULL;
        }
        rows[row].become(wire);
        return wire.n;
    }

    public int print(int m, int row) {
        if (!isMessage(m) || !isRow(row)) {
            return BAD;
        }
        if (!messages[m].there) {
            return NO;
        }
        texts.printMessage(schemaOf(m), messages[m], wire);
        return copyWire(row);
    }

    public int told(int m, int what) {
        if (!isMessage(m) || what < 0 || what > 5) {
            return BAD;
        }
        Tree tree = messages[m];
        if (!tree.there) {
            return NO;
        }
        switch (what) {
            case 0: return tree.schema;
            case 1: return tree.type;
            case 2: return tree.values;
            case 3: return tree.bytes;
            case 4: return tree.depth;
            default: return tree.strangers;
        }
    }

    public int copy(int m, int n) {
        if (!isMessage(m) || !isMessage(n)) {
            return BAD;
        }
        if (!messages[m].there) {
            return NO;
        }
        if (m != n) {
            messages[n].become(messages[m]);
        }
        return 1;
    }

    public int drop(int m) {
        if (!isMessage(m)) {
            return BAD;
        }
        if (!messages[m].there) {
            return NO;
        }
        messages[m].there = false;
        return 1;
    }

    /** Whether two messages that are there are of the same record of one schema. */
    private boolean isOneRecord(int m, int n) {
        return messages[m].schema == messages[n].schema && messages[m].type == messages[n].type;
    }

    public int same(int m, int n) {
        if (!isMessage(m) || !isMessage(n)) {
            return BAD;
        }
        if (!messages[m].there || !messages[n].there) {
            return NO;
        }
        boolean same = isOneRecord(m, n)
            && Tree.isSameBelow(messages[m], ROOT, messages[n], ROOT, true, 0);
        return same ? 1 : 0;
    }

    /** A message is WRITTEN to the wire: whether it can be. */
    private boolean giveWire(Schema sc, Tree tree, int format) {
        if (format == STREAM) {
            serial.giveStream(sc, tree, wire);
        } else if (format == LINEAR) {
            return serial.giveLinear(sc, tree, wire);
        } else {
            slotted.giveSlotted(sc, tree, wire);
        }
        return true;
    }

    /** A row is READ into the work tree as a record of schema s: the fault. */
    private int takeWire(int s, int k, int format, Bytes row) {
        int fault;
        work.begin(s, k);
        if (format == STREAM) {
            fault = serial.takeStream(schemas[s], work, row);
        } else if (format == LINEAR) {
            fault = serial.takeLinear(schemas[s], work, row);
        } else {
            fault = slotted.takeSlotted(schemas[s], work, row);
        }
        wirePlace = fault == 0 ? 0 : format <= LINEAR ? serial.place : slotted.place;
        work.tally();
        return fault == 0 && work.isLarge() ? 7 : fault;
    }

    public int encode(int m, int format, int row) {
        if (!isMessage(m) || !isFormat(format) || !isRow(row)) {
            return BAD;
        }
        if (!messages[m].there || !giveWire(schemaOf(m), messages[m], format)) {
            return NO;
        }
        return copyWire(row);
    }

    public int decode(int s, int k, int format, int row, int m) {
        if (!isSchema(s) || k < 0 || !isFormat(format) || !isRow(row) || !isMessage(m)) {
            return BAD;
        }
        if (!schemas[s].there) {
            return NO;
        }
        if (!schemas[s].isRecord(k)) {
            return BAD;
        }
        int fault = takeWire(s, k, format, rows[row]);
        return finish(m, fault, wirePlace, 7);
    }

    // ---- paths

    public int ask(int m, int row) {
        if (!isMessage(m) || !isRow(row)) {
            return BAD;
        }
        if (!messages[m].there) {
            return NO;
        }
        lexer.scan(tape);
        work.become(messages[m]);
        int sort = texts.sortOfPath(schemaOf(m), work);
        latestNumber = 0;
        if (texts.fault != 0) {
            latestPlace = texts.place;
            return -10 - texts.fault;
        }
        latestPlace = NO;
        latestNumber = texts.toldOf(sort, rows[row]);
        return sort;
    }

    public long number() {
        return latestNumber;
    }

    public int put(int m) {
        if (!isMessage(m)) {
            return BAD;
        }
        if (!messages[m].there) {
            return NO;
        }
        lexer.scan(tape);
        work.become(messages[m]);
        boolean may = texts.putPath(schemaOf(m), work);
        work.tally();
        if (texts.fault == 0 && !may && !work.isLarge()) {
            return NO;
        }
        return finish(m, texts.fault, texts.place, 3);
    }

    public int remove(int m) {
        if (!isMessage(m)) {
            return BAD;
        }
        if (!messages[m].there) {
            return NO;
        }
        lexer.scan(tape);
        work.become(messages[m]);
        int sort = texts.sortOfPath(schemaOf(m), work);
        if (texts.fault == 0 && sort == 0) {
            return NO;
        }
        if (texts.fault == 0) {
            texts.takeAway();
        }
        return finish(m, texts.fault, texts.place, 3);
    }

    public int merge(int m, int n) {
        if (!isMessage(m) || !isMessage(n)) {
            return BAD;
        }
        if (!messages[m].there || !messages[n].there || !isOneRecord(m, n)) {
            return NO;
        }
        Schema sc = schemaOf(m);
        serial.giveStream(sc, messages[n], wire);
        work.become(messages[m]);
        serial.takeStream(sc, work, wire);
        work.tally();
        if (work.isLarge()) {
            return FULL;
        }
        messages[m].become(work);
        return work.values;
    }

    public int differ(int m, int n) {
        if (!isMessage(m) || !isMessage(n)) {
            return BAD;
        }
        if (!messages[m].there || !messages[n].there || !isOneRecord(m, n)) {
            return NO;
        }
        return judging.differences(schemaOf(m), messages[m], messages[n]);
    }

    public int path(int k, int row) {
        if (!isRow(row) || !judging.hasPath(k)) {
            return BAD;
        }
        judging.pathInto(k, rows[row]);
        return rows[row].n;
    }

    // ---- what two schemas read of one another

    public int judge(int s, int a, int t, int b, int format) {
        if (!isSchema(s) || !isSchema(t) || a < 0 || b < 0 || !isFormat(format)) {
            return BAD;
        }
        boolean lacks = schemas[s].there && !schemas[s].isRecord(a);
        if (lacks || schemas[t].there && !schemas[t].isRecord(b)) {
            return BAD;
        }
        if (!schemas[s].there || !schemas[t].there) {
            return NO;
        }
        return judging.judgeRecords(schemas[s], a, schemas[t], b, format);
    }

    public int where() {
        return judging.judgedBy();
    }

    // ---- calls

    public int server(int s, int v, int format) {
        if (!isSchema(s) || v < 0 || !isFormat(format)) {
            return BAD;
        }
        if (!schemas[s].there) {
            return NO;
        }
        if (v >= schemas[s].serviceCount) {
            return BAD;
        }
        post.open(s, v, format);
        return 1;
    }

    public int client(int c, int s, int v) {
        if (!isClient(c) || !isSchema(s) || v < 0) {
            return BAD;
        }
        if (schemas[s].there && v >= schemas[s].serviceCount) {
            return BAD;
        }
        if (!schemas[s].there || !post.hasServer()) {
            return NO;
        }
        post.join(c, s, v);
        return 1;
    }

    /** The schema that a client goes by. */
    private int clientSchema(int c) {
        int s = post.clients.at(c, CL_SCHEMA);
        return isSchema(s) ? s : 0;
    }

    public int invoke(int c, int j, int m) {
        if (!isClient(c) || j < 0 || !isMessage(m)) {
            return BAD;
        }
        int s = clientSchema(c);
        int v = post.clients.at(c, CL_SERVICE);
        Schema sc = schemas[s];
        if (post.hasClient(c) && j >= sc.callCount(v)) {
            return BAD;
        }
        if (!post.hasClient(c) || !messages[m].there || messages[m].schema != s
                || messages[m].type != sc.calls.at(v, j, C_IN)
                || !giveWire(sc, messages[m], post.format)) {
            return NO;
        }
        if (post.isTired(c) || wire.isOver(ROOM - 16)) {
            return FULL;
        }
        body.empty();
        body.addBig(sc.nameMark(v), 8);
        body.addBig(post.nextXid(c), 4);
        body.addBig(sc.calls.at(v, j, C_NUMBER), 4);
        body.addAll(wire, 0, wire.n);
        return post.makeCall(c, j, body);
    }

    public int letter(int i, int what) {
        if (!post.hasLetter(i) || what < 0) {
            return BAD;
        }
        return what <= L_LEN ? post.letters.at(i, what) : post.letterByte(i, what - 6);
    }

    public int deliver(int i) {
        if (!post.hasLetter(i)) {
            return BAD;
        }
        post.pull(i);
        if (post.letters.at(LETTERS, L_TO) == SERVER) {
            int slot = post.arriveAtServer();
            if (slot >= 0) {
                serve(post.callBody(slot));
            }
        } else {
            int r = post.arriveAtClient();
            int code = r < 0 ? 0 : (int) post.partsAt(r).bigAt(4, 4);
            if (r >= 0 && code == 0 && !takeAnswer(r, post.letters.at(LETTERS, L_TO))) {
                code = 7;
            }
            post.end(r, code == 0 ? ANSWERED : FAILED, code);
        }
        return post.letterCount;
    }

    /** The server answers a call whose BODY is all there. */
    private void serve(Bytes call) {
        int s = isSchema(post.schema) ? post.schema : 0;
        Schema sc = schemas[s];
        int xid = (int) call.bigAt(8, 4);
        int j = sc.callNumbered(post.service, (int) call.bigAt(12, 4));
        int code = 0;
        if (call.bigAt(0, 8) != sc.nameMark(post.service)) {
            code = 1;
        } else if (j < 0) {
            code = 2;
        }
        wire.empty();
        wire.addAll(call, 16, call.n - 16);
        if (code == 0 && takeWire(s, sc.calls.at(post.service, j, C_IN), post.format, wire) != 0) {
            code = 3;
        }
        if (code == 0) {
            made.begin(s, sc.calls.at(post.service, j, C_OUT));
            code = post.run(sc, j, work, made);
            if (code == 0 && (!giveWire(sc, made, post.format) || wire.isOver(ROOM - 8))) {
                post.restoreCells();
                code = 6;
            }
        }
        body.empty();
        body.addBig(xid, 4);
        body.addBig(code, 4);
        body.addAll(wire, 0, code == 0 ? wire.n : 0);
        post.reply(body);
    }

    /** READS an answer to a client's call into the work tree: whether it can be. */
    private boolean takeAnswer(int r, int c) {
        int s = clientSchema(c);
        int j = post.calls.at(r, K_PLACE);
        Bytes answer = post.partsAt(r);
        wire.empty();
        wire.addAll(answer, 8, answer.n - 8);
        int k = schemas[s].calls.at(post.clients.at(c, CL_SERVICE), j, C_OUT);
        return takeWire(s, k, post.format, wire) == 0;
    }

    public int lose(int i) {
        if (!post.hasLetter(i)) {
            return BAD;
        }
        post.pull(i);
        return post.letterCount;
    }

    public int twice(int i) {
        if (!post.hasLetter(i)) {
            return BAD;
        }
        if (post.letterCount >= LETTERS) {
            return FULL;
        }
        post.again(i);
        return post.letterCount;
    }

    public int tick(int n) {
        if (n < 1 || n > 100) {
            return BAD;
        }
        if (!post.hasServer()) {
            return NO;
        }
        for (int i = 0; i < n; i++) {
            post.oneTick();
        }
        return post.time;
    }

    public int outcome(int c, int x, int what) {
        if (!isClient(c) || what < 0 || what > K_PLACE || post.callRow(c, x) < 0) {
            return BAD;
        }
        return post.calls.at(post.callRow(c, x), what);
    }

    public int take(int c, int x, int m) {
        if (!isClient(c) || !isMessage(m) || post.callRow(c, x) < 0) {
            return BAD;
        }
        int r = post.callRow(c, x);
        if (post.calls.at(r, K_STATE) != ANSWERED || !takeAnswer(r, c)) {
            return NO;
        }
        messages[m].become(work);
        return work.values;
    }

    public long cell(int k) {
        boolean has = post.hasServer() && isSchema(post.schema) && k >= 0
            && k < schemas[post.schema].cellCount(post.service);
        return has ? post.cellAt(k) : 0;
    }

    public int ran(int j) {
        if (j < 0) {
            return BAD;
        }
        if (!post.hasServer() || !isSchema(post.schema)) {
            return NO;
        }
        return j < schemas[post.schema].callCount(post.service) ? post.ranAt(j) : BAD;
    }

    public int crash() {
        return post.hasServer() ? post.forget() : NO;
    }

    public int net(int what) {
        switch (what) {
            case 0: return post.letterCount;
            case 1: return post.time;
            case 2: return post.answerCount;
            case 3: return post.pendingCount();
            case 4: return tape.n;
            case 5: return post.lost;
            default: return BAD;
        }
    }

    /** Numbers in groups of rows; what is outside reads as 0 and is not written. */
    private static final class Table {
        private final long[] cells;
        private final int groups, rows, width;

        Table(int groups, int rows, int width) {
            this.groups = groups;
            this.rows = rows;
            this.width = width;
            cells = new long[Math.max(0, groups * rows * width)];
        }

        long num(int g, int r, int c) {
            boolean inside = g >= 0 && g < groups && r >= 0 && r < rows && c >= 0 && c < width;
            int i = inside ? (g * rows + r) * width + c : -1;
            return i >= 0 && i < cells.length ? cells[i] : 0;
        }

        int at(int g, int r, int c) {
            boolean inside = g >= 0 && g < groups && r >= 0 && r < rows && c >= 0 && c < width;
            int i = inside ? (g * rows + r) * width + c : -1;
            return i >= 0 && i < cells.length ? (int) cells[i] : 0;
        }

        void set(int g, int r, int c, long v) {
            boolean inside = g >= 0 && g < groups && r >= 0 && r < rows && c >= 0 && c < width;
            int i = inside ? (g * rows + r) * width + c : -1;
            if (i >= 0 && i < cells.length) {
                cells[i] = v;
            }
        }

        long num(int r, int c) {
            int i = r >= 0 && r < rows && c >= 0 && c < width ? r * width + c : -1;
            return i >= 0 && i < cells.length ? cells[i] : 0;
        }

        int at(int r, int c) {
            int i = r >= 0 && r < rows && c >= 0 && c < width ? r * width + c : -1;
            return i >= 0 && i < cells.length ? (int) cells[i] : 0;
        }

        void set(int r, int c, long v) {
            int i = r >= 0 && r < rows && c >= 0 && c < width ? r * width + c : -1;
            if (i >= 0 && i < cells.length) {
                cells[i] = v;
            }
        }

        void wipe(int r) {
            for (int i = Math.max(0, r * width); r >= 0 && r < rows && i < (r + 1) * width
                    && i < cells.length; i++) {
                cells[i] = 0;
            }
        }

        void wipeAll() {
            for (int i = 0; i < cells.length; i++) {
                cells[i] = 0;
            }
        }

        void copyRow(int from, int to) {
            for (int c = 0; c < width; c++) {
                set(to, c, num(from, c));
            }
        }
    }

    /** A row of bytes with an end; what has no room is counted as lost. */
    private static final class Bytes {
        private final byte[] data;
        int n;
        int lost;

        Bytes(int room) {
            data = new byte[Math.max(0, room)];
        }

        int at(int i) {
            return i >= 0 && i < n && i < data.length ? data[i] & 255 : 0;
        }

        void empty() {
            n = 0;
            lost = 0;
        }

        void add(int b) {
            if (n >= 0 && n < data.length) {
                data[n] = (byte) b;
                n++;
            } else {
                lost++;
            }
        }

        void change(int i, int b) {
            if (i >= 0 && i < n && i < data.length) {
                data[i] = (byte) b;
            }
        }

        boolean isOver(int room) {
            return lost > 0 || n > room;
        }

        void addAll(Bytes from, int off, int len) {
            for (int i = off; i < off + len; i++) {
                boolean given = i >= 0 && i < from.n && i < from.data.length;
                if (n >= 0 && n < data.length) {
                    data[n] = given ? from.data[i] : 0;
                    n++;
                } else {
                    lost++;
                }
            }
        }

        void become(Bytes from) {
            empty();
            addAll(from, 0, from.n);
        }

        /** Bytes come to a place that may lie behind the end, which grows to hold them. */
        void lay(int place, Bytes from, int off, int len) {
            if (place < 0 || place > data.length - len) {
                return;
            }
            n = Math.max(n, place + len);
            for (int i = 0; i < len; i++) {
                change(place + i, from.at(off + i));
            }
        }

        void addBig(long v, int count) {
            for (int i = count - 1; i >= 0; i--) {
                if (n >= 0 && n < data.length) {
                    data[n] = (byte) (v >>> 8 * i);
                    n++;
                } else {
                    lost++;
                }
            }
        }

        void addLittle(long v, int count) {
            for (int i = 0; i < count; i++) {
                add((int) (v >>> 8 * i));
            }
        }

        long bigAt(int i, int count) {
            long v = 0;
            for (int k = i; k < i + count; k++) {
                v = v << 8 | (k >= 0 && k < n && k < data.length ? data[k] & 255 : 0);
            }
            return v;
        }

        long littleAt(int i, int count) {
            long v = 0;
            for (int k = i + count - 1; k >= i; k--) {
                v = v << 8 | (k >= 0 && k < n && k < data.length ? data[k] & 255 : 0);
            }
            return v;
        }

        void addVarint(long v) {
            long rest = v;
            for (int i = 0; i < 9 && rest >>> 7 != 0; i++) {
                add((int) (rest & 127) | 128);
                rest = rest >>> 7;
            }
            add((int) rest);
        }

        /** Puts the length of what stands from a place on as a VARINT ahead of it. */
        void addLengthAhead(int start) {
            int len = n - start;
            int more = 1;
            for (int rest = len >>> 7; rest > 0; rest = rest >>> 7) {
                more++;
            }
            for (int i = 0; i < more; i++) {
                add(0);
            }
            for (int i = n - 1; i >= start + more; i--) {
                change(i, at(i - more));
            }
            for (int i = 0; i < more; i++) {
                change(start + i, len >>> 7 * i & 127 | (i + 1 < more ? 128 : 0));
            }
        }

        boolean matches(int off, int len, Bytes other, int otherOff, int otherLen) {
            for (int i = 0; i < len && len == otherLen; i++) {
                int x = off + i;
                int y = otherOff + i;
                boolean inside = x >= 0 && y >= 0 && x < data.length && y < other.data.length;
                if (!inside || data[x] != other.data[y]) {
                    return false;
                }
            }
            return len == otherLen;
        }

        int compareAt(int off, int len, int otherOff, int otherLen) {
            for (int i = 0; i < len && i < otherLen; i++) {
                int x = off + i;
                int y = otherOff + i;
                boolean inside = x >= 0 && y >= 0 && x < data.length && y < data.length;
                if (inside && data[x] != data[y]) {
                    return (data[x] & 255) - (data[y] & 255);
                }
            }
            return len - otherLen;
        }

        boolean isUtf8(int off, int len) {
            int end = off + len;
            int i = off;
            for (int turn = 0; turn < len && i < end; turn++) {
                int size = signLength(i, end);
                if (size == 0) {
                    return false;
                }
                i += size;
            }
            return true;
        }

        /** How many bytes the UTF-8 sign at a place has, 0 if none stands there. */
        private int signLength(int i, int end) {
            int a = i >= 0 && i < n && i < data.length ? data[i] & 255 : 0;
            int size = a < 128 ? 1 : a < 194 ? 0 : a < 224 ? 2 : a < 240 ? 3 : a < 245 ? 4 : 0;
            if (size == 0 || i < 0 || i + size > end) {
                return 0;
            }
            int least = a == 224 ? 160 : a == 240 ? 144 : 128;
            int most = a == 237 ? 159 : a == 244 ? 143 : 191;
            for (int k = 1; k < size; k++) {
                int b = i + k < data.length ? data[i + k] & 255 : 0;
                if (b < (k == 1 ? least : 128) || b > (k == 1 ? most : 191)) {
                    return 0;
                }
            }
            return size;
        }
    }

    /** The tokens of a text, all found at once; the first wrong one is the last that is kept. */
    private static final class Lexer {
        private static final int MOST = 4002;
        private static final String SIGNS = "{}()[]<>,;:=@.+-*/%!";
        private final int[] kinds = new int[MOST], spots = new int[MOST];
        /** Where tokens stand WRITTEN OUT; of a NAME where it stands first. */
        private final int[] firsts = new int[MOST], lengths = new int[MOST];
        private final int[] starts = new int[MOST];
        private final int[] stringAts = new int[MOST], stringLens = new int[MOST];
        private final long[] values = new long[MOST];
        /** The tokens as WRITTEN OUT, a blank behind each, and the bytes that STRINGS mean. */
        final Bytes canon = new Bytes(2 * ROOM + 2), strings = new Bytes(ROOM);
        private Bytes text;
        private int count;
        /** The token that stands now, its kind, and where it begins. */
        int now, kind, spot;

        Lexer(Bytes empty) {
            text = empty;
        }

        /** Reads a text, which is empty then. */
        void scan(Bytes tape) {
            text = tape;
            count = 0;
            canon.empty();
            strings.empty();
            int at = behindBlanks(0);
            for (int turn = 0; turn < MOST && at >= 0; turn++) {
                at = token(at);
            }
            tape.empty();
            now = -1;
            step();
        }

        void step() {
            if (now + 1 < count) {
                now++;
            }
            kind = now >= 0 && now < MOST ? kinds[now] : T_END;
            spot = now >= 0 && now < MOST ? spots[now] : 0;
        }

        int kindOf(int token) {
            return token >= 0 && token < MOST ? kinds[token] : T_END;
        }

        int spotOf(int token) {
            return token >= 0 && token < MOST ? spots[token] : 0;
        }

        /** Where a token stands WRITTEN OUT. */
        int startOf(int token) {
            return token >= 0 && token < MOST ? starts[token] : 0;
        }

        /** Where a NAME stands WRITTEN OUT first: the same NAMES have the same place. */
        int nameOf(int token) {
            return token >= 0 && token < MOST ? firsts[token] : 0;
        }

        int lengthOf(int token) {
            return token >= 0 && token < MOST ? lengths[token] : 0;
        }

        int stringAt(int token) {
            return token >= 0 && token < MOST ? stringAts[token] : 0;
        }

        int stringLen(int token) {
            return token >= 0 && token < MOST ? stringLens[token] : 0;
        }

        long valueOf(int token) {
            return token >= 0 && token < MOST ? values[token] : 0;
        }

        private int behindBlanks(int from) {
            int i = from;
            boolean remark = false;
            for (; i < text.n; i++) {
                int b = text.at(i);
                if (b == 10) {
                    remark = false;
                } else if (b == '#') {
                    remark = true;
                } else if (!remark && b != 9 && b != 13 && b != 32) {
                    break;
                }
            }
            return i;
        }

        /** Keeps the token at a place; where the next one begins, or -1 behind the last. */
        private int token(int at) {
            if (at >= text.n) {
                keepToken(T_END, at, at);
                return -1;
            }
            int b = text.at(at);
            int end;
            if (isLetter(b)) {
                end = nameEnd(at);
            } else if (isDigit(b)) {
                end = numberEnd(at);
            } else if (b == '"') {
                end = stringEnd(at);
            } else {
                end = signEnd(at, b);
            }
            if (end < 0) {
                keepToken(T_BROKEN, at, at);
                return -1;
            }
            return behindBlanks(end);
        }

        private void keepToken(int kindHere, int at, int end) {
            if (count < 0 || count >= MOST) {
                return;
            }
            kinds[count] = kindHere;
            spots[count] = at;
            firsts[count] = canon.n;
            starts[count] = canon.n;
            int from = at;
            // NUMBERS are WRITTEN OUT without 0s in front
            while (kindHere == T_NUMBER && from + 1 < end && text.at(from) == '0') {
                from++;
            }
            lengths[count] = end - from;
            count++;
            if (end > at) {
                canon.addAll(text, from, end - from);
                canon.add(32);
            }
        }

        private int nameEnd(int at) {
            int end = at;
            while (end < text.n && (isLetter(text.at(end)) || isDigit(text.at(end)))) {
                end++;
            }
            if (end - at > 16) {
                return -1;
            }
            int word = wordOf(at, end);
            keepToken(word >= 0 ? W_ENUM + word : T_NAME, at, end);
            if (word < 0) {
                findFirst();
            }
            return end;
        }

        /** The latest token is a NAME, which may stand further ahead, too. */
        private void findFirst() {
            int latest = count - 1;
            for (int i = 0; i < latest && latest < MOST; i++) {
                if (kinds[i] == T_NAME && lengths[i] == lengths[latest]
                        && canon.matches(starts[i], lengths[i], canon, starts[latest], lengths[i])) {
                    firsts[latest] = firsts[i];
                    return;
                }
            }
        }

        private int numberEnd(int at) {
            int end = at;
            long v = 0;
            while (end < text.n && isDigit(text.at(end))) {
                v = v * 10 + text.at(end) - '0';
                end++;
            }
            // of 19 digits too much shows as a number below 0
            if (end - at > 19 || v < 0) {
                return -1;
            }
            if (count >= 0 && count < MOST) {
                values[count] = v;
            }
            keepToken(T_NUMBER, at, end);
            return end;
        }

        private int stringEnd(int at) {
            int start = strings.n;
            int i = at + 1;
            for (int items = 0; i < text.n && text.at(i) != '"'; items++) {
                int size = itemSize(i);
                if (size == 0 || items >= 60) {
                    return -1;
                }
                int b = text.at(i + size - 1);
                strings.add(size < 4 ? b : hexOf(text.at(i + 2)) * 16 + hexOf(b));
                i += size;
            }
            if (i >= text.n) {
                return -1;
            }
            if (count >= 0 && count < MOST) {
                stringAts[count] = start;
                stringLens[count] = strings.n - start;
            }
            keepToken(T_STRING, at, i + 1);
            return i + 1;
        }

        /** How many bytes a STRING's item has, 0 if none stands there. */
        private int itemSize(int i) {
            int b = text.at(i);
            if (b != '\\') {
                return b >= 32 && b <= 126 ? 1 : 0;
            }
            int next = text.at(i + 1);
            if (next == '"' || next == '\\') {
                return 2;
            }
            return next == 'x' && hexOf(text.at(i + 2)) >= 0 && hexOf(text.at(i + 3)) >= 0 ? 4 : 0;
        }

        private int signEnd(int at, int b) {
            if (SIGNS.indexOf((char) b) < 0) {
                return -1;
            }
            boolean twice = text.at(at + 1) == '=';
            int both = b == '=' ? T_SAME : b == '!' ? T_OTHER : b == '<' ? T_LESS_SAME
                : b == '>' ? T_MORE_SAME : 0;
            int end = twice && both != 0 ? at + 2 : at + 1;
            keepToken(end == at + 2 ? both : b, at, end);
            return end;
        }

        private int wordOf(int at, int end) {
            int start = 0;
            int index = 0;
            for (int i = 0; i < WORDS.length(); i++) {
                if (WORDS.charAt(i) == ' ') {
                    if (i - start == end - at && isWord(start, at, end - at)) {
                        return index;
                    }
                    start = i + 1;
                    index++;
                }
            }
            return -1;
        }

        private boolean isWord(int start, int at, int len) {
            for (int i = 0; i < len && start + i < WORDS.length(); i++) {
                if (WORDS.charAt(start + i) != text.at(at + i)) {
                    return false;
                }
            }
            return true;
        }

        private static boolean isLetter(int b) {
            return b >= 'a' && b <= 'z' || b >= 'A' && b <= 'Z' || b == '_';
        }

        private static boolean isDigit(int b) {
            return b >= '0' && b <= '9';
        }

        private static int hexOf(int b) {
            return b >= '0' && b <= '9' ? b - '0' : b >= 'a' && b <= 'f' ? b - 'a' + 10 : -1;
        }
    }

    /** A schema: its types, services and texts, and the LAYOUTS of its records. */
    private static final class Schema {
        static final int TYPES = 30, FIELDS = 24, ONES = 8, SERVICES = 4, CALLS_EACH = 10,
            CELLS_EACH = 8, NODES_EACH = 100, WORDS_EACH = 64;
        final Table types = new Table(1, TYPES, 9);
        /** Fields of records, and constants of enums. */
        final Table fields = new Table(TYPES, FIELDS, 17);
        final Table ones = new Table(TYPES, ONES, 5);
        final Table services = new Table(1, SERVICES, 6);
        final Table calls = new Table(SERVICES, CALLS_EACH, 8);
        final Table cells = new Table(SERVICES, CELLS_EACH, 2);
        final Table steps = new Table(1, ROOM / 4, 4);
        final Table nodes = new Table(1, ROOM, 2);
        /** The schema WRITTEN OUT with a blank at the end, and the bytes of its DEFAULTS. */
        final Bytes text = new Bytes(2 * ROOM + 2), defaults = new Bytes(ROOM);
        private final long[] taken = new long[WORDS_EACH];
        private final int[] line = new int[TYPES];
        int typeCount, serviceCount, stepCount, nodeCount;
        boolean there;

        void clear() {
            typeCount = 0;
            serviceCount = 0;
            stepCount = 0;
            nodeCount = 0;
            there = false;
            text.empty();
            defaults.empty();
            types.wipeAll();
            fields.wipeAll();
            ones.wipeAll();
            services.wipeAll();
            calls.wipeAll();
            cells.wipeAll();
        }

        boolean isRecord(int k) {
            return k >= 0 && k < typeCount && types.at(k, TY_SORT) == 1;
        }

        int fieldCount(int k) {
            return types.at(k, TY_COUNT);
        }

        int oneCount(int k) {
            return types.at(k, TY_ONES);
        }

        int callCount(int v) {
            return services.at(v, S_CALLS);
        }

        int cellCount(int v) {
            return services.at(v, S_CELLS);
        }

        /** Whether a field always has a value, with a DEFAULT. */
        boolean isPlain(int k, int j) {
            return fields.at(k, j, F_MODE) == SINGLE && fields.at(k, j, F_ONE) < 0
                && fields.at(k, j, F_KIND) != RECORD;
        }

        /** Whether a number is a field's DEFAULT. */
        boolean isDefault(int k, int j, long v) {
            return isPlain(k, j) && fields.num(k, j, F_DEFAULT) == v;
        }

        /** Whether a field is a record that is there or not. */
        boolean isRecordField(int k, int j) {
            return fields.at(k, j, F_MODE) <= MAYBE && fields.at(k, j, F_KIND) == RECORD;
        }

        /** The type of a NAME, which stands at a place of another text; -1 without one. */
        int typeNamed(Bytes names, int off, int len) {
            for (int k = 0; k < typeCount; k++) {
                if (text.matches(types.at(k, TY_NAME), types.at(k, TY_NAME_LEN), names, off, len)) {
                    return k;
                }
            }
            return -1;
        }

        /** The field or constant of a NAME, which stands at a place of another text, or -1. */
        int fieldNamed(int k, Bytes names, int off, int len) {
            int count = types.at(k, TY_COUNT);
            for (int j = 0; j < count; j++) {
                int name = fields.at(k, j, F_NAME);
                if (text.matches(name, fields.at(k, j, F_NAME_LEN), names, off, len)) {
                    return j;
                }
            }
            return -1;
        }

        /** The field or constant of a number, -1 without one. */
        int numbered(int k, long number) {
            int count = types.at(k, TY_COUNT);
            for (int j = 0; j < count; j++) {
                if (fields.num(k, j, F_NUMBER) == number) {
                    return j;
                }
            }
            return -1;
        }

        int callNumbered(int v, int number) {
            int count = services.at(v, S_CALLS);
            for (int j = 0; j < count; j++) {
                if (calls.at(v, j, C_NUMBER) == number) {
                    return j;
                }
            }
            return -1;
        }

        /** Fields by rising numbers, and where each stands among these. */
        void rankFields(int k) {
            int count = fieldCount(k);
            for (int j = 0; j < count; j++) {
                int rank = 0;
                for (int i = 0; i < count; i++) {
                    if (fields.at(k, i, F_NUMBER) < fields.at(k, j, F_NUMBER)) {
                        rank++;
                    }
                }
                fields.set(k, j, F_RANK, rank);
                fields.set(k, rank, F_ORDER, j);
            }
        }

        void layOut(int k) {
            for (int i = 0; i < taken.length; i++) {
                taken[i] = 0;
            }
            types.set(k, TY_POINTERS, 0);
            for (int j = 0; j < fieldCount(k); j++) {
                fields.set(k, j, F_PLACE, NO);
                fields.set(k, j, F_POINTER, NO);
                fields.set(k, j, F_FLAG, NO);
            }
            for (int rank = 0; rank < fieldCount(k); rank++) {
                int j = fields.at(k, rank, F_ORDER);
                int one = fields.at(k, j, F_ONE);
                if (one < 0) {
                    layField(k, j);
                } else if (fields.at(k, j, F_NUMBER) == ones.at(k, one, O_LEAST)) {
                    layOne(k, one);
                }
            }
            int data = 0;
            for (int i = 0; i < taken.length; i++) {
                data = taken[i] != 0 ? i + 1 : data;
            }
            types.set(k, TY_DATA, data);
        }

        private void layField(int k, int j) {
            int mode = fields.at(k, j, F_MODE);
            int kind = fields.at(k, j, F_KIND);
            if (mode == MAYBE && kind != RECORD) {
                fields.set(k, j, F_FLAG, freePlace(1));
            }
            if (mode <= MAYBE && isNumber(kind)) {
                fields.set(k, j, F_PLACE, freePlace(bitsOf(kind)));
            } else {
                fields.set(k, j, F_POINTER, nextPointer(k));
            }
        }

        private void layOne(int k, int one) {
            int first = ones.at(k, one, O_FIRST);
            int behind = first + ones.at(k, one, O_COUNT);
            boolean numbers = false;
            boolean others = false;
            for (int j = first; j < behind; j++) {
                boolean number = isNumber(fields.at(k, j, F_KIND));
                numbers = numbers || number;
                others = others || !number;
            }
            int tag = freePlace(16);
            int place = numbers ? freePlace(64) : NO;
            int pointer = others ? nextPointer(k) : NO;
            for (int j = first; j < behind; j++) {
                boolean number = isNumber(fields.at(k, j, F_KIND));
                int before = 0;
                for (int i = first; i < behind; i++) {
                    before += fields.at(k, i, F_NUMBER) < fields.at(k, j, F_NUMBER) ? 1 : 0;
                }
                fields.set(k, j, F_TAG, before + 1);
                fields.set(k, j, F_FLAG, tag);
                fields.set(k, j, F_PLACE, number ? place : NO);
                fields.set(k, j, F_POINTER, number ? NO : pointer);
            }
        }

        private int nextPointer(int k) {
            int pointer = types.at(k, TY_POINTERS);
            types.set(k, TY_POINTERS, pointer + 1);
            return pointer;
        }

        private int freePlace(int bits) {
            long mask = bits >= 64 ? -1L : (1L << bits) - 1;
            for (int place = 0; place < taken.length * 64; place += Math.max(1, bits)) {
                int word = place >> 6;
                if (word < taken.length && (taken[word] & mask << (place & 63)) == 0) {
                    taken[word] |= mask << (place & 63);
                    return place;
                }
            }
            return NO;
        }

        /** THE MARK of bytes, going on from that of bytes before. */
        static long markOn(long mark, Bytes from, int off, int len) {
            long h = mark;
            for (int i = 0; i < len; i++) {
                h = (h ^ from.at(off + i)) * 1099511628211L;
            }
            return h;
        }

        long nameMark(int v) {
            return markOn(MARK_FIRST, text, services.at(v, S_NAME), services.at(v, S_NAME_LEN));
        }

        long typeMark(int k) {
            line[0] = k;
            return marksInLine(MARK_FIRST, 1);
        }

        long serviceMark(int v) {
            int from = services.at(v, S_TEXT);
            long h = markOn(MARK_FIRST, text, from, services.at(v, S_TEXT_END) - from);
            int count = 0;
            for (int j = 0; j < callCount(v); j++) {
                count = joinLine(count, calls.at(v, j, C_IN));
                count = joinLine(count, calls.at(v, j, C_OUT));
            }
            return marksInLine(h, count);
        }

        /** Goes through the types in line, to which each adds those that it names. */
        private long marksInLine(long mark, int waiting) {
            int count = waiting;
            long h = mark;
            for (int i = 0; i < count && i < line.length; i++) {
                int k = line[i];
                int from = types.at(k, TY_TEXT);
                h = markOn(h, text, from, types.at(k, TY_TEXT_END) - from);
                for (int j = 0; j < fieldCount(k) && isRecord(k); j++) {
                    if (fields.at(k, j, F_KIND) >= ENUM) {
                        count = joinLine(count, fields.at(k, j, F_TYPE));
                    }
                }
            }
            return h;
        }

        private int joinLine(int count, int k) {
            for (int i = 0; i < count && i < line.length; i++) {
                if (line[i] == k) {
                    return count;
                }
            }
            if (count >= 0 && count < line.length) {
                line[count] = k;
                return count + 1;
            }
            return count;
        }
    }

    /** Reads a schema from the lexer's tokens, with its faults. */
    private static final class SchemaReader {
        private static final int TOKEN_TYPE = 0, TOKEN_KEY = 1, TOKEN_VALUE = 2;
        private static final int NUMBERS = 2001, DEEPEST = 10;
        private final Lexer lexer;
        private Schema sc;
        int fault, place;
        /** The fault from 4 on that stands first in the text. */
        private int laterFault, laterPlace;
        /** Of each number 1 .. 2000 the record that told it last, from 1 on. */
        private final Table numbers = new Table(1, NUMBERS, 1);
        /** The tokens of each field's type, key, value (from 1 on, 0 for none). */
        private final Table told = new Table(Schema.TYPES, Schema.FIELDS, 3);
        /** The tokens of calls' two records, of steps' targets, and of nodes. */
        private final Table callTokens = new Table(Schema.SERVICES, Schema.CALLS_EACH, 2);
        private final Table stepTokens = new Table(1, ROOM / 4, 1);
        private final Table nodeTokens = new Table(1, ROOM, 1);
        private int nodesHere;

        SchemaReader(Lexer lexer, Schema empty) {
            this.lexer = lexer;
            sc = empty;
        }

        /** Reads into a schema that is not used yet; fault is 0 without one. */
        void readInto(Schema fresh) {
            sc = fresh;
            sc.clear();
            fault = 0;
            place = 0;
            laterFault = 0;
            laterPlace = 0;
            numbers.wipeAll();
            sc.text.become(lexer.canon);
            for (int turn = 0; turn < TURNS && fault == 0 && lexer.kind != T_END; turn++) {
                if (lexer.kind == W_ENUM || lexer.kind == W_RECORD) {
                    typeItem(lexer.kind == W_RECORD);
                } else if (lexer.kind == W_SERVICE) {
                    serviceItem();
                } else {
                    refuse();
                }
            }
            if (fault == 0) {
                findTypes();
                findCalls();
                fault = laterFault;
                place = laterPlace;
            }
            if (fault == 0) {
                for (int k = 0; k < sc.typeCount; k++) {
                    sc.rankFields(k);
                    if (sc.isRecord(k)) {
                        sc.layOut(k);
                    }
                }
                sc.there = true;
            }
        }

        private void refuse() {
            fail(lexer.kind == T_BROKEN ? 1 : 2);
        }

        private void fail(int number) {
            if (fault == 0) {
                fault = number;
                place = lexer.spot;
            }
        }

        /** A fault from 4 on, which counts if none stands ahead of it. */
        private void later(int number, int at) {
            if (laterFault == 0 || at < laterPlace || at == laterPlace && number < laterFault) {
                laterFault = number;
                laterPlace = at;
            }
        }

        private void expect(int kind) {
            if (fault == 0 && lexer.kind == kind) {
                lexer.step();
            } else if (fault == 0) {
                fault = lexer.kind == T_BROKEN ? 1 : 2;
                place = lexer.spot;
            }
        }

        private void typeItem(boolean record) {
            lexer.step();
            int k = sc.typeCount;
            if (lexer.kind != T_NAME) {
                refuse();
                return;
            }
            if (k >= Schema.TYPES) {
                fail(3);
                return;
            }
            if (isItemTold(lexer.now)) {
                later(4, lexer.spot);
            }
            sc.typeCount++;
            sc.types.set(k, TY_SORT, record ? 1 : 0);
            sc.types.set(k, TY_NAME, lexer.nameOf(lexer.now));
            sc.types.set(k, TY_NAME_LEN, lexer.lengthOf(lexer.now));
            sc.types.set(k, TY_TEXT, lexer.startOf(lexer.now - 1));
            lexer.step();
            expect('{');
            boolean more = !record || lexer.kind != '}';
            for (int turn = 0; turn < TURNS && fault == 0 && more; turn++) {
                if (!record) {
                    constant(k);
                } else if (lexer.kind == W_ONE) {
                    onePart(k);
                } else if (lexer.kind == W_KEEP) {
                    keepPart(k);
                } else {
                    fieldPart(k, NO);
                }
                more = record ? lexer.kind != '}' : lexer.kind == T_NAME;
            }
            sc.types.set(k, TY_TEXT_END, lexer.startOf(lexer.now) + 2);
            expect('}');
        }

        /** The type of a token's NAME, -1 without one. */
        private int typeNamed(int token) {
            for (int k = 0; k < sc.typeCount; k++) {
                if (sc.types.at(k, TY_NAME) == lexer.nameOf(token)) {
                    return k;
                }
            }
            return -1;
        }

        /** The field or constant of a token's NAME, -1 without one. */
        private int fieldNamed(int k, int token) {
            int count = sc.types.at(k, TY_COUNT);
            for (int j = 0; j < count; j++) {
                if (sc.fields.at(k, j, F_NAME) == lexer.nameOf(token)) {
                    return j;
                }
            }
            return -1;
        }

        private boolean isItemTold(int token) {
            for (int v = 0; v < sc.serviceCount; v++) {
                if (sc.services.at(v, S_NAME) == lexer.nameOf(token)) {
                    return true;
                }
            }
            return typeNamed(token) >= 0;
        }

        private void constant(int k) {
            int j = sc.fieldCount(k);
            if (lexer.kind != T_NAME) {
                refuse();
                return;
            }
            if (j >= 16) {
                fail(3);
                return;
            }
            if (fieldNamed(k, lexer.now) >= 0) {
                later(4, lexer.spot);
            }
            nameField(k, j);
            lexer.step();
            expect('=');
            int at = lexer.spot;
            int first = lexer.now;
            integer();
            if (fault != 0) {
                return;
            }
            long number = integerAt(first);
            if (number < -32768 || number > 32767 || isConstantTold(k, j, number)) {
                later(6, at);
            }
            sc.fields.set(k, j, F_NUMBER, number);
            expect(';');
        }

        private void nameField(int k, int j) {
            sc.fields.set(k, j, F_NAME, lexer.nameOf(lexer.now));
            sc.fields.set(k, j, F_NAME_LEN, lexer.lengthOf(lexer.now));
            sc.types.set(k, TY_COUNT, j + 1);
        }

        private boolean isConstantTold(int k, int before, long number) {
            for (int j = 0; j < before; j++) {
                if (sc.fields.num(k, j, F_NUMBER) == number) {
                    return true;
                }
            }
            return false;
        }

        private void integer() {
            if (lexer.kind == '-') {
                lexer.step();
            }
            expect(T_NUMBER);
        }

        private long integerAt(int token) {
            boolean below = lexer.kindOf(token) == '-';
            return below ? -lexer.valueOf(token + 1) : lexer.valueOf(token);
        }

        private boolean isPartTold(int k, int token) {
            int count = sc.types.at(k, TY_ONES);
            for (int o = 0; o < count; o++) {
                if (sc.ones.at(k, o, O_NAME) == lexer.nameOf(token)) {
                    return true;
                }
            }
            int fields = sc.types.at(k, TY_COUNT);
            for (int j = 0; j < fields; j++) {
                if (sc.fields.at(k, j, F_NAME) == lexer.nameOf(token)) {
                    return true;
                }
            }
            return false;
        }

        private void onePart(int k) {
            lexer.step();
            int o = sc.oneCount(k);
            if (lexer.kind != T_NAME) {
                refuse();
                return;
            }
            if (o >= Schema.ONES) {
                fail(3);
                return;
            }
            if (isPartTold(k, lexer.now)) {
                later(4, lexer.spot);
            }
            sc.ones.set(k, o, O_NAME, lexer.nameOf(lexer.now));
            sc.ones.set(k, o, O_NAME_LEN, lexer.lengthOf(lexer.now));
            sc.ones.set(k, o, O_FIRST, sc.fieldCount(k));
            sc.types.set(k, TY_ONES, o + 1);
            lexer.step();
            expect('{');
            for (int turn = 0; turn < TURNS && fault == 0; turn++) {
                fieldPart(k, o);
                if (lexer.kind == '}') {
                    break;
                }
            }
            expect('}');
            int first = sc.ones.at(k, o, O_FIRST);
            long least = sc.fields.num(k, first, F_NUMBER);
            for (int j = first; j < sc.fieldCount(k); j++) {
                least = Math.min(least, sc.fields.num(k, j, F_NUMBER));
            }
            sc.ones.set(k, o, O_COUNT, sc.fieldCount(k) - first);
            sc.ones.set(k, o, O_LEAST, least);
        }

        private void keepPart(int k) {
            for (int turn = 0; turn < TURNS && fault == 0; turn++) {
                lexer.step();
                partNumber(k);
                if (lexer.kind != ',') {
                    break;
                }
            }
            expect(';');
        }

        /** A NUMBER that no field of the record and no keep may have told: which it is. */
        private long partNumber(int k) {
            int token = lexer.now;
            int at = lexer.spot;
            expect(T_NUMBER);
            if (fault != 0) {
                return 0;
            }
            long number = lexer.valueOf(token);
            if (number < 1 || number > 2000) {
                later(6, at);
            } else if (numbers.at((int) number, 0) == k + 1) {
                later(6, at);
            } else {
                numbers.set((int) number, 0, k + 1);
            }
            return number;
        }

        private void fieldPart(int k, int one) {
            int mode = SINGLE;
            if (lexer.kind == W_MANY || lexer.kind == W_MAYBE) {
                mode = lexer.kind == W_MANY ? MANY : MAYBE;
                if (one >= 0) {
                    later(7, lexer.spot);
                }
                lexer.step();
            }
            int key = 0;
            if (lexer.kind == W_MAP) {
                if (one >= 0 || mode != SINGLE) {
                    later(7, lexer.spot);
                }
                mode = MAP;
                lexer.step();
                expect('<');
                key = lexer.now + 1;
                plainType();
                expect(',');
            }
            int type = lexer.now + 1;
            plainType();
            if (mode == MAP) {
                expect('>');
            }
            int j = fieldName(k);
            if (fault != 0) {
                return;
            }
            sc.fields.set(k, j, F_MODE, mode);
            sc.fields.set(k, j, F_ONE, one);
            told.set(k, j, TOKEN_TYPE, type);
            told.set(k, j, TOKEN_KEY, key);
            expect('@');
            sc.fields.set(k, j, F_NUMBER, partNumber(k));
            told.set(k, j, TOKEN_VALUE, fieldValue());
            expect(';');
        }

        private void plainType() {
            int kind = lexer.kind;
            if (fault == 0 && (kind == T_NAME || kind >= W_BOOL && kind <= W_BYTES)) {
                lexer.step();
            } else if (fault == 0) {
                refuse();
            }
        }

        private int fieldName(int k) {
            int j = sc.fieldCount(k);
            if (fault != 0) {
                return j;
            }
            if (lexer.kind != T_NAME) {
                refuse();
            } else if (j >= Schema.FIELDS) {
                fail(3);
            } else {
                if (isPartTold(k, lexer.now)) {
                    later(4, lexer.spot);
                }
                nameField(k, j);
                lexer.step();
            }
            return j;
        }

        /** The token at which a field's value begins, from 1 on, 0 without one. */
        private int fieldValue() {
            if (fault != 0 || lexer.kind != '=') {
                return 0;
            }
            lexer.step();
            int kind = lexer.kind;
            int token = lexer.now + 1;
            if (kind == '-') {
                lexer.step();
                expect(T_NUMBER);
            } else if (kind == T_NUMBER || kind == T_STRING || kind == T_NAME || kind == W_TRUE
                    || kind == W_FALSE) {
                lexer.step();
            } else {
                refuse();
            }
            return token;
        }

        private void serviceItem() {
            lexer.step();
            int v = sc.serviceCount;
            if (lexer.kind != T_NAME) {
                refuse();
                return;
            }
            if (v >= Schema.SERVICES) {
                fail(3);
                return;
            }
            if (isItemTold(lexer.now)) {
                later(4, lexer.spot);
            }
            sc.serviceCount++;
            sc.services.set(v, S_NAME, lexer.nameOf(lexer.now));
            sc.services.set(v, S_NAME_LEN, lexer.lengthOf(lexer.now));
            sc.services.set(v, S_TEXT, lexer.startOf(lexer.now - 1));
            lexer.step();
            expect('{');
            for (int turn = 0; turn < TURNS && fault == 0 && lexer.kind == W_CELL; turn++) {
                cellPart(v);
            }
            for (int turn = 0; turn < TURNS && fault == 0 && lexer.kind == W_CALL; turn++) {
                callPart(v);
            }
            sc.services.set(v, S_TEXT_END, lexer.startOf(lexer.now) + 2);
            expect('}');
        }

        private boolean isServicePartTold(int v, int token) {
            for (int j = 0; j < sc.callCount(v); j++) {
                if (sc.calls.at(v, j, C_NAME) == lexer.nameOf(token)) {
                    return true;
                }
            }
            return cellNamed(v, token) >= 0;
        }

        private int cellNamed(int v, int token) {
            for (int i = 0; i < sc.cellCount(v); i++) {
                if (sc.cells.at(v, i, 0) == lexer.nameOf(token)) {
                    return i;
                }
            }
            return -1;
        }

        private void cellPart(int v) {
            lexer.step();
            int i = sc.cellCount(v);
            if (lexer.kind != T_NAME) {
                refuse();
                return;
            }
            if (i >= Schema.CELLS_EACH) {
                fail(3);
                return;
            }
            if (isServicePartTold(v, lexer.now)) {
                later(4, lexer.spot);
            }
            sc.cells.set(v, i, 0, lexer.nameOf(lexer.now));
            sc.cells.set(v, i, 1, lexer.lengthOf(lexer.now));
            sc.services.set(v, S_CELLS, i + 1);
            lexer.step();
            expect(';');
        }

        private void callPart(int v) {
            lexer.step();
            int j = sc.callCount(v);
            if (lexer.kind != T_NAME) {
                refuse();
                return;
            }
            if (j >= Schema.CALLS_EACH) {
                fail(3);
                return;
            }
            if (isServicePartTold(v, lexer.now)) {
                later(4, lexer.spot);
            }
            sc.calls.set(v, j, C_NAME, lexer.nameOf(lexer.now));
            sc.calls.set(v, j, C_NAME_LEN, lexer.lengthOf(lexer.now));
            sc.services.set(v, S_CALLS, j + 1);
            lexer.step();
            expect('(');
            callTokens.set(v, j, 0, lexer.now);
            expect(T_NAME);
            expect(')');
            callTokens.set(v, j, 1, lexer.now);
            expect(T_NAME);
            expect('@');
            callNumber(v, j);
            expect('{');
            sc.calls.set(v, j, C_FIRST_STEP, sc.stepCount);
            nodesHere = 0;
            for (int turn = 0; turn < TURNS && fault == 0 && lexer.kind != '}'; turn++) {
                stepPart();
            }
            expect('}');
            sc.calls.set(v, j, C_STEPS, sc.stepCount - sc.calls.at(v, j, C_FIRST_STEP));
            sc.calls.set(v, j, C_NODES, nodesHere);
        }

        private void callNumber(int v, int j) {
            int token = lexer.now;
            int at = lexer.spot;
            sc.calls.set(v, j, C_NUMBER, -1);
            expect(T_NUMBER);
            if (fault != 0) {
                return;
            }
            long number = lexer.valueOf(token);
            if (number > 1000 || sc.callNumbered(v, (int) number) >= 0) {
                later(6, at);
            } else {
                sc.calls.set(v, j, C_NUMBER, number);
            }
        }

        private void stepPart() {
            int s = sc.stepCount;
            int sort = lexer.kind == T_NAME ? STEP_CELL : lexer.kind == W_OUT ? STEP_OUT : STEP_FAIL;
            if (sort == STEP_FAIL && lexer.kind != W_FAIL) {
                refuse();
                return;
            }
            if (sort != STEP_CELL) {
                lexer.step();
            }
            if (sort == STEP_OUT) {
                expect('.');
            }
            stepTokens.set(s, 0, lexer.now);
            if (sort != STEP_FAIL) {
                expect(T_NAME);
                expect('=');
            }
            sc.steps.set(s, ST_SORT, sort);
            sc.steps.set(s, ST_FROM, sc.nodeCount);
            if (fault == 0) {
                expression(0);
            }
            sc.steps.set(s, ST_TO, sc.nodeCount);
            sc.stepCount++;
            expect(';');
        }

        /** Whether one NODE more may stand at the token. */
        private boolean isNodeFree() {
            nodesHere++;
            if (nodesHere > Schema.NODES_EACH) {
                fail(3);
            }
            return fault == 0;
        }

        /** NODES are kept in the order in which they are worked out. */
        private void keepNode(int op, long arg, int token) {
            if (fault == 0) {
                sc.nodes.set(sc.nodeCount, N_OP, op);
                sc.nodes.set(sc.nodeCount, N_ARG, arg);
                nodeTokens.set(sc.nodeCount, 0, token);
                sc.nodeCount++;
            }
        }

        private void expression(int depth) {
            sum(depth);
            int op = comparison(lexer.kind);
            if (fault == 0 && op != 0 && isNodeFree()) {
                lexer.step();
                sum(depth);
                keepNode(op, 0, 0);
            }
        }

        private static int comparison(int kind) {
            switch (kind) {
                case T_SAME: return OP_SAME;
                case T_OTHER: return OP_OTHER;
                case '<': return OP_LESS;
                case T_LESS_SAME: return OP_LESS_SAME;
                case '>': return OP_MORE;
                case T_MORE_SAME: return OP_MORE_SAME;
                default: return 0;
            }
        }

        private void sum(int depth) {
            product(depth);
            for (int turn = 0; turn < TURNS && fault == 0; turn++) {
                int op = lexer.kind == '+' ? OP_ADD : lexer.kind == '-' ? OP_SUBTRACT : 0;
                if (op == 0 || !isNodeFree()) {
                    return;
                }
                lexer.step();
                product(depth);
                keepNode(op, 0, 0);
            }
        }

        private void product(int depth) {
            unary(depth);
            for (int turn = 0; turn < TURNS && fault == 0; turn++) {
                int op = lexer.kind == '*' ? OP_TIMES : lexer.kind == '/' ? OP_DIVIDE
                    : lexer.kind == '%' ? OP_REST : 0;
                if (op == 0 || !isNodeFree()) {
                    return;
                }
                lexer.step();
                unary(depth);
                keepNode(op, 0, 0);
            }
        }

        private void unary(int depth) {
            int kind = lexer.kind;
            int token = lexer.now;
            boolean opens = kind == '(' || kind == '-' || kind == '!';
            if (fault != 0) {
                return;
            }
            if (opens && depth >= DEEPEST) {
                fail(3);
            } else if (kind == '(') {
                lexer.step();
                expression(depth + 1);
                expect(')');
            } else if (opens) {
                if (isNodeFree()) {
                    lexer.step();
                    unary(depth + 1);
                    keepNode(kind == '-' ? OP_MINUS : OP_NOT, 0, 0);
                }
            } else if (kind == T_NUMBER || kind == T_NAME) {
                if (isNodeFree()) {
                    keepNode(kind == T_NUMBER ? OP_NUMBER : OP_CELL, lexer.valueOf(token), token);
                    lexer.step();
                }
            } else if (kind != W_IN) {
                refuse();
            } else if (isNodeFree()) {
                lexer.step();
                expect('.');
                token = lexer.now;
                expect(T_NAME);
                keepNode(OP_IN, 0, token);
            }
        }

        private void findTypes() {
            for (int k = 0; k < sc.typeCount; k++) {
                for (int j = 0; j < sc.fieldCount(k) && sc.isRecord(k); j++) {
                    findType(k, j);
                }
            }
            for (int k = 0; k < sc.typeCount; k++) {
                for (int j = 0; j < sc.fieldCount(k) && sc.isRecord(k); j++) {
                    findDefault(k, j);
                }
            }
        }

        /** The kind that a token tells, -1 of a NAME that means nothing. */
        private int kindAt(int token) {
            int word = lexer.kindOf(token);
            if (word >= W_BOOL && word <= W_BYTES) {
                return word - W_BOOL;
            }
            int k = typeNamed(token);
            return k < 0 ? -1 : sc.isRecord(k) ? RECORD : ENUM;
        }

        private void findType(int k, int j) {
            int token = told.at(k, j, TOKEN_TYPE) - 1;
            int kind = kindAt(token);
            if (kind < 0) {
                later(5, lexer.spotOf(token));
            }
            sc.fields.set(k, j, F_KIND, kind);
            sc.fields.set(k, j, F_TYPE, kind >= ENUM ? typeNamed(token) : NO);
            sc.fields.set(k, j, F_KEY, NO);
            if (sc.fields.at(k, j, F_MODE) == MAP) {
                int keyToken = told.at(k, j, TOKEN_KEY) - 1;
                int key = kindAt(keyToken);
                if (key < 0) {
                    later(5, lexer.spotOf(keyToken));
                } else if (key == BOOL || key > TEXT) {
                    later(7, lexer.spotOf(keyToken));
                }
                sc.fields.set(k, j, F_KEY, key);
            }
        }

        private void findDefault(int k, int j) {
            int kind = sc.fields.at(k, j, F_KIND);
            int type = sc.fields.at(k, j, F_TYPE);
            int token = told.at(k, j, TOKEN_VALUE) - 1;
            if (kind == ENUM && sc.isPlain(k, j)) {
                sc.fields.set(k, j, F_DEFAULT, sc.fields.num(type, 0, F_NUMBER));
            }
            if (token < 0 || kind < 0) {
                return;
            }
            int word = lexer.kindOf(token);
            boolean right = sc.isPlain(k, j);
            if (right && kind == ENUM && word == T_NAME) {
                int constant = fieldNamed(type, token);
                if (constant < 0) {
                    later(5, lexer.spotOf(token));
                }
                sc.fields.set(k, j, F_DEFAULT, sc.fields.num(type, constant, F_NUMBER));
            } else if (right && kind == BOOL) {
                right = word == W_TRUE || word == W_FALSE;
                sc.fields.set(k, j, F_DEFAULT, word == W_TRUE ? 1 : 0);
            } else if (right && (kind == TEXT || kind == BYTES)) {
                right = word == T_STRING && defaultString(k, j, token);
            } else if (right) {
                long number = integerAt(token);
                right = (word == T_NUMBER || word == '-') && isWithin(kind, number);
                sc.fields.set(k, j, F_DEFAULT, number);
            }
            if (!right) {
                later(7, lexer.spotOf(token));
            }
        }

        /** Keeps a STRING as DEFAULT: whether it may be one. */
        private boolean defaultString(int k, int j, int token) {
            int from = lexer.stringAt(token);
            int len = lexer.stringLen(token);
            sc.fields.set(k, j, F_DEFAULT_AT, sc.defaults.n);
            sc.fields.set(k, j, F_DEFAULT_LEN, len);
            sc.defaults.addAll(lexer.strings, from, len);
            return sc.fields.at(k, j, F_KIND) == BYTES || lexer.strings.isUtf8(from, len);
        }

        private void findCalls() {
            for (int v = 0; v < sc.serviceCount; v++) {
                for (int j = 0; j < sc.callCount(v); j++) {
                    int in = recordAt(callTokens.at(v, j, 0));
                    int out = recordAt(callTokens.at(v, j, 1));
                    sc.calls.set(v, j, C_IN, in);
                    sc.calls.set(v, j, C_OUT, out);
                    int first = sc.calls.at(v, j, C_FIRST_STEP);
                    for (int s = first; s < first + sc.calls.at(v, j, C_STEPS); s++) {
                        findTarget(s, v, out);
                        findNodes(s, v, in);
                    }
                }
            }
        }

        private int recordAt(int token) {
            int k = typeNamed(token);
            if (!sc.isRecord(k)) {
                later(5, lexer.spotOf(token));
                return -1;
            }
            return k;
        }

        private void findTarget(int s, int v, int out) {
            int token = stepTokens.at(s, 0);
            int sort = sc.steps.at(s, ST_SORT);
            if (sort == STEP_FAIL) {
                return;
            }
            int target = sort == STEP_CELL ? cellNamed(v, token) : fieldNamed(out, token);
            if (target < 0) {
                later(5, lexer.spotOf(token));
            } else if (sort == STEP_OUT && !(sc.fields.at(out, target, F_MODE) <= MAYBE
                    && isNumber(sc.fields.at(out, target, F_KIND)))) {
                later(7, lexer.spotOf(token));
            }
            sc.steps.set(s, ST_TARGET, target);
        }

        private void findNodes(int s, int v, int in) {
            for (int i = sc.steps.at(s, ST_FROM); i < sc.steps.at(s, ST_TO); i++) {
                int op = sc.nodes.at(i, N_OP);
                int token = nodeTokens.at(i, 0);
                if (op == OP_CELL || op == OP_IN) {
                    int found = op == OP_CELL ? cellNamed(v, token) : fieldNamed(in, token);
                    if (found < 0) {
                        later(5, lexer.spotOf(token));
                    }
                    sc.nodes.set(i, N_ARG, found);
                }
            }
        }
    }

    /**
     * A message as a tree of nodes. A record's nodes are its fields that are SET, by rising
     * numbers, then unknown ones; a list's and a MAP's are the items. Node 0 is none.
     */
    private static final class Tree {
        final Table nodes;
        final Bytes pool;
        private final int room;
        private int used;
        /** Whether a node had no room: then what is told is LARGE anyway. */
        private boolean cramped;
        boolean there;
        int schema, type, values, bytes, depth, strangers;

        Tree(int room, int bytesRoom) {
            this.room = room;
            nodes = new Table(1, room, 11);
            pool = new Bytes(bytesRoom);
        }

        void begin(int s, int k) {
            for (int n = 0; n < used; n++) {
                nodes.wipe(n);
            }
            used = ROOT + 1;
            cramped = false;
            pool.empty();
            schema = s;
            type = k;
            nodes.set(ROOT, SHAPE, A_RECORD);
        }

        int fresh() {
            if (used < 1 || used >= room) {
                cramped = true;
                return 0;
            }
            used++;
            return used - 1;
        }

        int shape(int node) {
            return nodes.at(node, SHAPE);
        }

        int first(int node) {
            return nodes.at(node, HEAD);
        }

        int next(int node) {
            return nodes.at(node, NEXT);
        }

        int count(int node) {
            int count = 0;
            for (int n = first(node), turn = 0; n != 0 && turn < TURNS; n = next(n), turn++) {
                count++;
            }
            return count;
        }

        int item(int node, long index) {
            int n = index < 0 ? 0 : nodes.at(node, HEAD);
            for (long i = 0; i < index && n != 0; i++) {
                n = nodes.at(n, NEXT);
            }
            return n;
        }

        int child(int rec, int tag) {
            int n = nodes.at(rec, HEAD);
            for (int turn = 0; turn < TURNS && n != 0 && nodes.at(n, TAG) < tag; turn++) {
                n = nodes.at(n, NEXT);
            }
            return n != 0 && nodes.at(n, TAG) == tag ? n : 0;
        }

        /** The node of a record's field, 0 if it is not SET. */
        int fieldNode(Schema sc, int k, int j, int rec) {
            return child(rec, sc.fields.at(k, j, F_RANK));
        }

        /** The node of a record's field, which comes if it is not there. */
        private int enter(int rec, int tag) {
            int before = 0;
            int n = nodes.at(rec, HEAD);
            for (int turn = 0; turn < TURNS && n != 0 && nodes.at(n, TAG) < tag; turn++) {
                before = n;
                n = nodes.at(n, NEXT);
            }
            if (n != 0 && nodes.at(n, TAG) == tag) {
                return n;
            }
            int come = fresh();
            if (come != 0) {
                nodes.set(come, TAG, tag);
                nodes.set(come, NEXT, n);
                nodes.set(before != 0 ? before : rec, before != 0 ? NEXT : HEAD, come);
                nodes.set(rec, TAIL, n == 0 ? come : nodes.at(rec, TAIL));
            }
            return come;
        }

        /** A record's field is not SET any more. */
        void leave(int rec, int tag) {
            int before = 0;
            int n = nodes.at(rec, HEAD);
            for (int turn = 0; turn < TURNS && n != 0 && nodes.at(n, TAG) < tag; turn++) {
                before = n;
                n = nodes.at(n, NEXT);
            }
            if (n == 0 || nodes.at(n, TAG) != tag) {
                return;
            }
            int after = nodes.at(n, NEXT);
            nodes.set(before != 0 ? before : rec, before != 0 ? NEXT : HEAD, after);
            if (after == 0) {
                nodes.set(rec, TAIL, before);
            }
        }

        void unlink(int parent, int node) {
            int before = 0;
            int n = nodes.at(parent, HEAD);
            for (int turn = 0; turn < TURNS && n != 0 && n != node; turn++) {
                before = n;
                n = nodes.at(n, NEXT);
            }
            if (n == 0) {
                return;
            }
            int after = nodes.at(n, NEXT);
            nodes.set(before != 0 ? before : parent, before != 0 ? NEXT : HEAD, after);
            if (after == 0) {
                nodes.set(parent, TAIL, before);
            }
        }

        int append(int parent) {
            int come = fresh();
            int tail = nodes.at(parent, TAIL);
            if (come != 0) {
                nodes.set(tail != 0 ? tail : parent, tail != 0 ? NEXT : HEAD, come);
                nodes.set(parent, TAIL, come);
            }
            return come;
        }

        /** A field's node, which comes if it is not there; others of its one go. */
        int come(Schema sc, int k, int j, int rec) {
            int one = sc.fields.at(k, j, F_ONE);
            for (int i = 0; one >= 0 && i < sc.ones.at(k, one, O_COUNT); i++) {
                int other = sc.ones.at(k, one, O_FIRST) + i;
                if (other != j) {
                    leave(rec, sc.fields.at(k, other, F_RANK));
                }
            }
            int n = enter(rec, sc.fields.at(k, j, F_RANK));
            int mode = sc.fields.at(k, j, F_MODE);
            int kind = sc.fields.at(k, j, F_KIND);
            nodes.set(n, SHAPE, mode == MANY ? A_LIST : mode == MAP ? A_MAP : shapeOf(kind));
            return n;
        }

        /** A field that has its DEFAULT, or no item, is not SET. */
        void settle(Schema sc, int k, int j, int rec) {
            int rank = sc.fields.at(k, j, F_RANK);
            int n = child(rec, rank);
            int shape = nodes.at(n, SHAPE);
            boolean gone = false;
            if (shape == A_LIST || shape == A_MAP) {
                gone = nodes.at(n, HEAD) == 0;
            } else if (sc.isPlain(k, j) && shape == A_NUMBER) {
                gone = nodes.num(n, NUM) == sc.fields.num(k, j, F_DEFAULT);
            } else if (sc.isPlain(k, j)) {
                int from = sc.fields.at(k, j, F_DEFAULT_AT);
                gone = pool.matches(nodes.at(n, OFF), nodes.at(n, LEN), sc.defaults, from,
                    sc.fields.at(k, j, F_DEFAULT_LEN));
            }
            if (gone) {
                leave(rec, rank);
            }
        }

        void setNumber(Schema sc, int k, int j, int rec, long v) {
            if (sc.isDefault(k, j, v)) {
                leave(rec, sc.fields.at(k, j, F_RANK));
            } else {
                nodes.set(come(sc, k, j, rec), NUM, v);
            }
        }

        void setString(int node, Bytes from, int off, int len) {
            nodes.set(node, OFF, pool.n);
            nodes.set(node, LEN, len);
            pool.addAll(from, off, len);
        }

        /** Keeps an unknown field with a record. */
        void addStranger(int rec, long key, Bytes from, int off, int len) {
            int n = append(rec);
            nodes.set(n, TAG, STRANGER);
            nodes.set(n, SHAPE, A_STRANGER);
            nodes.set(n, NUM, key);
            setString(n, from, off, len);
        }

        /** A node becomes one without anything, of the shape of a kind. */
        void clearNode(int node, int kind) {
            nodes.set(node, SHAPE, shapeOf(kind));
            nodes.set(node, HEAD, 0);
            nodes.set(node, TAIL, 0);
            nodes.set(node, NUM, 0);
            nodes.set(node, OFF, 0);
            nodes.set(node, LEN, 0);
        }

        void moveNode(int from, int to) {
            for (int c = HEAD; c <= LEN; c++) {
                if (c != TAG) {
                    nodes.set(to, c, nodes.num(from, c));
                }
            }
        }

        static int shapeOf(int kind) {
            return kind == RECORD ? A_RECORD : kind == TEXT || kind == BYTES ? A_STRING : A_NUMBER;
        }

        /** The item of a key, which a node has as its value; it comes if it may, else 0. */
        int keyed(int map, int keyKind, int keyNode, boolean comes) {
            int before = 0;
            int n = nodes.at(map, HEAD);
            int by = n == 0 ? 1 : compareKey(n, keyKind, keyNode);
            for (int turn = 0; turn < TURNS && n != 0 && by < 0; turn++) {
                before = n;
                n = nodes.at(n, NEXT);
                by = n == 0 ? 1 : compareKey(n, keyKind, keyNode);
            }
            if (by == 0 || !comes) {
                return by == 0 ? n : 0;
            }
            int come = fresh();
            if (come != 0) {
                nodes.set(come, NEXT, n);
                nodes.set(before != 0 ? before : map, before != 0 ? NEXT : HEAD, come);
                nodes.set(map, TAIL, n == 0 ? come : nodes.at(map, TAIL));
                nodes.set(come, KEY, nodes.num(keyNode, NUM));
                nodes.set(come, KEY_OFF, nodes.at(keyNode, OFF));
                nodes.set(come, KEY_LEN, nodes.at(keyNode, LEN));
            }
            return come;
        }

        private int compareKey(int n, int keyKind, int keyNode) {
            if (keyKind == TEXT) {
                return pool.compareAt(nodes.at(n, KEY_OFF), nodes.at(n, KEY_LEN),
                    nodes.at(keyNode, OFF), nodes.at(keyNode, LEN));
            }
            return compareNumbers(keyKind, nodes.num(n, KEY), nodes.num(keyNode, NUM));
        }

        /** Whether the value of one node is below that of another, as keys of a kind. */
        boolean isBelow(int one, int two, int keyKind) {
            if (keyKind == TEXT) {
                return pool.compareAt(nodes.at(one, OFF), nodes.at(one, LEN),
                    nodes.at(two, OFF), nodes.at(two, LEN)) < 0;
            }
            return compareNumbers(keyKind, nodes.num(one, NUM), nodes.num(two, NUM)) < 0;
        }

        /** Counts VALUES, BYTES, depth and unknown fields. */
        void tally() {
            values = 0;
            bytes = 0;
            depth = 1;
            strangers = 0;
            tallyBelow(this, ROOT, 1, 0);
        }

        private static void tallyBelow(Tree tree, int node, int deep, int level) {
            boolean map = tree.nodes.at(node, SHAPE) == A_MAP;
            tree.depth = Math.max(tree.depth, deep);
            for (int n = tree.first(node), turn = 0; n != 0 && turn < TURNS; n = tree.next(n), turn++) {
                int shape = tree.nodes.at(n, SHAPE);
                tree.values += map ? 2 : 1;
                tree.bytes += map ? tree.nodes.at(n, KEY_LEN) : 0;
                tree.bytes += shape == A_STRING || shape == A_STRANGER ? tree.nodes.at(n, LEN) : 0;
                tree.strangers += shape == A_STRANGER ? 1 : 0;
                if (level < LEVELS && shape >= A_RECORD && shape <= A_MAP) {
                    tallyBelow(tree, n, shape == A_RECORD ? deep + 1 : deep, level + 1);
                }
            }
        }

        boolean isLarge() {
            return cramped || pool.lost > 0 || values > MOST_VALUES || bytes > MOST_BYTES;
        }

        void become(Tree from) {
            begin(from.schema, from.type);
            branch(from, ROOT, this, ROOT, 0);
            there = true;
            values = from.values;
            bytes = from.bytes;
            depth = from.depth;
            strangers = from.strangers;
        }

        private static void branch(Tree from, int source, Tree to, int target, int level) {
            for (int n = from.first(source), turn = 0; n != 0 && turn < TURNS; n = from.next(n), turn++) {
                int copy = to.append(target);
                to.nodes.set(copy, TAG, from.nodes.num(n, TAG));
                to.nodes.set(copy, SHAPE, from.nodes.num(n, SHAPE));
                to.nodes.set(copy, NUM, from.nodes.num(n, NUM));
                to.nodes.set(copy, KEY, from.nodes.num(n, KEY));
                to.nodes.set(copy, KEY_OFF, to.pool.n);
                to.nodes.set(copy, KEY_LEN, from.nodes.num(n, KEY_LEN));
                to.pool.addAll(from.pool, from.nodes.at(n, KEY_OFF), from.nodes.at(n, KEY_LEN));
                to.setString(copy, from.pool, from.nodes.at(n, OFF), from.nodes.at(n, LEN));
                if (level < LEVELS && from.first(n) != 0) {
                    branch(from, n, to, copy, level + 1);
                }
            }
        }

        /** Whether what stands below two nodes is the same, with unknown fields or without. */
        private static boolean isSameBelow(Tree a, int x, Tree b, int y, boolean strangers, int level) {
            int n = a.nodes.at(x, HEAD);
            int m = b.nodes.at(y, HEAD);
            for (int turn = 0; turn < TURNS && n != 0 && m != 0; turn++) {
                boolean ends = !strangers && a.nodes.at(n, SHAPE) == A_STRANGER;
                if (ends && b.nodes.at(m, SHAPE) == A_STRANGER) {
                    return true;
                }
                if (!isSameNode(a, n, b, m) || level > LEVELS
                        || !isSameBelow(a, n, b, m, strangers, level + 1)) {
                    return false;
                }
                n = a.nodes.at(n, NEXT);
                m = b.nodes.at(m, NEXT);
            }
            boolean over = n == 0 || !strangers && a.nodes.at(n, SHAPE) == A_STRANGER;
            return over && (m == 0 || !strangers && b.nodes.at(m, SHAPE) == A_STRANGER);
        }

        static boolean isSameNode(Tree a, int n, Tree b, int m) {
            return a.nodes.at(n, TAG) == b.nodes.at(m, TAG)
                && a.nodes.at(n, SHAPE) == b.nodes.at(m, SHAPE)
                && a.nodes.num(n, NUM) == b.nodes.num(m, NUM)
                && a.nodes.num(n, KEY) == b.nodes.num(m, KEY)
                && a.pool.matches(a.nodes.at(n, OFF), a.nodes.at(n, LEN), b.pool,
                    b.nodes.at(m, OFF), b.nodes.at(m, LEN))
                && a.pool.matches(a.nodes.at(n, KEY_OFF), a.nodes.at(n, KEY_LEN), b.pool,
                    b.nodes.at(m, KEY_OFF), b.nodes.at(m, KEY_LEN));
        }
    }

    /** Messages and paths as texts: read, asked, put, taken away, printed. */
    private static final class Texts {
        private final Lexer lexer;
        private Schema sc;
        private Tree tree;
        int fault, place;
        /** Where a path stands: a field of a record, perhaps an item in it (part above 0). */
        private int record, type, field, depth, part, keyNode;
        /** What the path leads to (0: it is not there), and whether its way is. */
        private int node;
        private boolean alive;
        private Bytes out;
        private final byte[] digits = new byte[20];

        Texts(Lexer lexer, Schema empty, Tree work, Bytes nowhere) {
            this.lexer = lexer;
            sc = empty;
            tree = work;
            out = nowhere;
        }

        private void fail(int number, int at) {
            if (fault == 0) {
                fault = number;
                place = at;
            }
        }

        private void refuse() {
            if (fault == 0) {
                fault = lexer.kind == T_BROKEN ? 1 : 2;
                place = lexer.spot;
            }
        }

        private void expect(int kind) {
            if (fault == 0 && lexer.kind == kind) {
                lexer.step();
            } else if (fault == 0) {
                fault = lexer.kind == T_BROKEN ? 1 : 2;
                place = lexer.spot;
            }
        }

        private void begin(Schema schemaHere, Tree treeHere) {
            sc = schemaHere;
            tree = treeHere;
            fault = 0;
            place = 0;
        }

        /** The tokens become a message of schema s in a tree. */
        void takeMessage(Schema schemaHere, int s, Tree into) {
            begin(schemaHere, into);
            into.begin(s, 0);
            if (lexer.kind != T_NAME) {
                refuse();
                return;
            }
            int k = sc.typeNamed(lexer.canon, lexer.startOf(lexer.now), lexer.lengthOf(lexer.now));
            if (!sc.isRecord(k)) {
                fail(5, lexer.spot);
                return;
            }
            into.type = k;
            lexer.step();
            single(ROOT, RECORD, k, 0);
            finishText();
        }

        private void finishText() {
            if (fault == 0 && lexer.kind != T_END) {
                refuse();
            }
        }

        private static boolean beginsValue(int kind) {
            return kind == '-' || kind == T_NUMBER || kind == T_STRING || kind == T_NAME
                || kind == W_TRUE || kind == W_FALSE || kind == '{' || kind == '[' || kind == '<';
        }

        /** A v of one value, within records of a depth. */
        private void single(int into, int kind, int typeHere, int deep) {
            int token = lexer.kind;
            if (!beginsValue(token)) {
                refuse();
            } else if (kind == RECORD) {
                if (token != '{') {
                    fail(7, lexer.spot);
                } else {
                    recordText(into, typeHere, deep + 1);
                }
            } else if (kind == TEXT || kind == BYTES) {
                string(into, kind);
            } else if (kind == ENUM && token == T_NAME) {
                constant(into, typeHere);
            } else if (kind == BOOL && (token == W_TRUE || token == W_FALSE)) {
                tree.nodes.set(into, NUM, token == W_TRUE ? 1 : 0);
                lexer.step();
            } else if (kind != BOOL && (token == '-' || token == T_NUMBER)) {
                integer(into, kind);
            } else {
                fail(7, lexer.spot);
            }
        }

        private void string(int into, int kind) {
            int from = lexer.stringAt(lexer.now);
            int len = lexer.stringLen(lexer.now);
            if (lexer.kind != T_STRING || kind == TEXT && !lexer.strings.isUtf8(from, len)) {
                fail(7, lexer.spot);
                return;
            }
            tree.setString(into, lexer.strings, from, len);
            lexer.step();
        }

        private void constant(int into, int enumType) {
            int at = lexer.startOf(lexer.now);
            int c = sc.fieldNamed(enumType, lexer.canon, at, lexer.lengthOf(lexer.now));
            if (c < 0) {
                fail(5, lexer.spot);
                return;
            }
            tree.nodes.set(into, NUM, sc.fields.num(enumType, c, F_NUMBER));
            lexer.step();
        }

        private void integer(int into, int kind) {
            int at = lexer.spot;
            long v = integerValue();
            if (fault == 0 && !isWithin(kind, v)) {
                fail(7, at);
            }
            tree.nodes.set(into, NUM, v);
        }

        private long integerValue() {
            boolean below = lexer.kind == '-';
            if (below) {
                lexer.step();
            }
            long v = lexer.valueOf(lexer.now);
            if (lexer.kind == T_NUMBER) {
                lexer.step();
            } else {
                refuse();
            }
            return below ? -v : v;
        }

        private void recordText(int rec, int k, int deep) {
            if (deep > MOST_DEEP) {
                fail(3, lexer.spot);
                return;
            }
            lexer.step();
            int toldFields = 0;
            int toldOnes = 0;
            boolean more = lexer.kind != '}';
            for (int turn = 0; turn < TURNS && fault == 0 && more; turn++) {
                int j = fieldAtToken(k, toldFields, toldOnes);
                if (fault != 0) {
                    return;
                }
                int one = sc.fields.at(k, j, F_ONE);
                toldFields |= 1 << j;
                toldOnes |= one >= 0 ? 1 << one : 0;
                lexer.step();
                expect(':');
                if (fault == 0) {
                    whole(tree.come(sc, k, j, rec), k, j, deep);
                    tree.settle(sc, k, j, rec);
                }
                more = lexer.kind == ',';
                if (fault == 0 && more) {
                    lexer.step();
                }
            }
            expect('}');
        }

        private int fieldAtToken(int k, int toldFields, int toldOnes) {
            if (lexer.kind != T_NAME) {
                refuse();
                return 0;
            }
            int at = lexer.startOf(lexer.now);
            int j = sc.fieldNamed(k, lexer.canon, at, lexer.lengthOf(lexer.now));
            int one = sc.fields.at(k, j, F_ONE);
            if (j < 0) {
                fail(5, lexer.spot);
            } else if ((toldFields >>> j & 1) == 1 || one >= 0 && (toldOnes >>> one & 1) == 1) {
                fail(4, lexer.spot);
            }
            return j;
        }

        /** A v of a whole field. */
        private void whole(int into, int k, int j, int deep) {
            int mode = sc.fields.at(k, j, F_MODE);
            if (mode <= MAYBE) {
                single(into, sc.fields.at(k, j, F_KIND), sc.fields.at(k, j, F_TYPE), deep);
            } else if (!beginsValue(lexer.kind)) {
                refuse();
            } else if (lexer.kind != (mode == MANY ? '[' : '<')) {
                fail(7, lexer.spot);
            } else if (mode == MANY) {
                list(into, k, j, deep);
            } else {
                map(into, k, j, deep);
            }
        }

        private void list(int into, int k, int j, int deep) {
            int kind = sc.fields.at(k, j, F_KIND);
            lexer.step();
            boolean more = lexer.kind != ']';
            for (int turn = 0; turn < TURNS && fault == 0 && more; turn++) {
                int item = tree.append(into);
                tree.clearNode(item, kind);
                single(item, kind, sc.fields.at(k, j, F_TYPE), deep);
                more = lexer.kind == ',';
                if (fault == 0 && more) {
                    lexer.step();
                }
            }
            expect(']');
        }

        private void map(int into, int k, int j, int deep) {
            int kind = sc.fields.at(k, j, F_KIND);
            int keyKind = sc.fields.at(k, j, F_KEY);
            lexer.step();
            boolean more = lexer.kind != '>';
            for (int turn = 0; turn < TURNS && fault == 0 && more; turn++) {
                int at = lexer.spot;
                int key = tree.fresh();
                single(key, keyKind, NO, deep);
                if (fault == 0 && tree.keyed(into, keyKind, key, false) != 0) {
                    fail(4, at);
                }
                expect(':');
                if (fault == 0) {
                    int item = tree.keyed(into, keyKind, key, true);
                    tree.clearNode(item, kind);
                    single(item, kind, sc.fields.at(k, j, F_TYPE), deep);
                }
                more = lexer.kind == ',';
                if (fault == 0 && more) {
                    lexer.step();
                }
            }
            expect('>');
        }

        /** Goes along a path; making, records that are not there come. */
        private void walk(boolean making) {
            record = ROOT;
            type = tree.type;
            depth = 1;
            alive = true;
            pathName();
            for (int turn = 0; turn < TURNS && fault == 0; turn++) {
                if (lexer.kind == '.') {
                    intoRecord(making);
                } else if (lexer.kind == '[') {
                    intoItems(making);
                } else {
                    return;
                }
            }
        }

        private int mode() {
            return sc.fields.at(type, field, F_MODE);
        }

        private int kind() {
            return sc.fields.at(type, field, F_KIND);
        }

        private void pathName() {
            if (lexer.kind != T_NAME) {
                refuse();
                return;
            }
            int at = lexer.startOf(lexer.now);
            int j = sc.fieldNamed(type, lexer.canon, at, lexer.lengthOf(lexer.now));
            if (j < 0) {
                fail(5, lexer.spot);
                return;
            }
            field = j;
            part = 0;
            node = alive ? tree.fieldNode(sc, type, j, record) : 0;
            lexer.step();
        }

        private void intoRecord(boolean making) {
            if (kind() != RECORD || part == 0 && mode() > MAYBE) {
                fail(5, lexer.spot);
                return;
            }
            if (making && depth >= MOST_DEEP) {
                fail(3, lexer.spot);
                return;
            }
            if (making && alive) {
                node = madeNode();
            }
            alive = alive && node != 0;
            record = node;
            type = sc.fields.at(type, field, F_TYPE);
            depth++;
            lexer.step();
            pathName();
        }

        private void intoItems(boolean making) {
            int at = lexer.spot;
            lexer.step();
            boolean string = lexer.kind == T_STRING;
            if (!string && lexer.kind != '-' && lexer.kind != T_NUMBER) {
                refuse();
                return;
            }
            int keyKind = sc.fields.at(type, field, F_KEY);
            if (part != 0 || mode() < MANY || string != (mode() == MAP && keyKind == TEXT)) {
                fail(5, at);
                return;
            }
            int holder = node;
            if (mode() == MANY) {
                part = 1;
                long index = integerValue();
                node = alive ? tree.item(holder, index) : 0;
                alive = alive && (node != 0 || making && index == tree.count(holder));
            } else {
                part = 2;
                keyNode = tree.fresh();
                single(keyNode, keyKind, NO, depth);
                node = alive ? tree.keyed(holder, keyKind, keyNode, false) : 0;
                alive = alive && (node != 0 || making);
            }
            expect(']');
        }

        /** The node of what the path leads to, which comes if it is not there. */
        private int madeNode() {
            int holder = tree.come(sc, type, field, record);
            if (part == 0 || node != 0) {
                return part == 0 ? holder : node;
            }
            int keyKind = sc.fields.at(type, field, F_KEY);
            int made = part == 1 ? tree.append(holder) : tree.keyed(holder, keyKind, keyNode, true);
            tree.clearNode(made, kind());
            return made;
        }

        /** The tokens are a path: the sort of what it leads to. */
        int sortOfPath(Schema schemaHere, Tree of) {
            begin(schemaHere, of);
            walk(false);
            finishText();
            if (fault != 0 || !alive) {
                return 0;
            }
            if (part == 0 && mode() >= MANY) {
                return mode() == MANY ? 4 : 5;
            }
            if (node == 0 && !(part == 0 && sc.isPlain(type, field))) {
                return 0;
            }
            return kind() == RECORD ? 3 : isNumber(kind()) ? 1 : 2;
        }

        /** What ask() tells of a sort, with the bytes of a text or bytes. */
        long toldOf(int sort, Bytes row) {
            if (sort == 1) {
                return node == 0 ? sc.fields.num(type, field, F_DEFAULT) : tree.nodes.num(node, NUM);
            }
            if (sort == 2) {
                row.empty();
                if (node == 0) {
                    row.addAll(sc.defaults, sc.fields.at(type, field, F_DEFAULT_AT),
                        sc.fields.at(type, field, F_DEFAULT_LEN));
                } else {
                    row.addAll(tree.pool, tree.nodes.at(node, OFF), tree.nodes.at(node, LEN));
                }
                return row.n;
            }
            return sort == 3 ? sc.fields.at(type, field, F_TYPE) : sort >= 4 ? tree.count(node) : 0;
        }

        /** What the latest path leads to is TAKEN AWAY. */
        void takeAway() {
            int holder = tree.fieldNode(sc, type, field, record);
            if (part == 0) {
                tree.leave(record, sc.fields.at(type, field, F_RANK));
            } else {
                tree.unlink(holder, node);
                tree.settle(sc, type, field, record);
            }
        }

        /** The tokens, path = v, are PUT to a tree: whether what the path leads to may be. */
        boolean putPath(Schema schemaHere, Tree into) {
            begin(schemaHere, into);
            walk(true);
            expect('=');
            if (fault != 0) {
                return true;
            }
            int target = alive ? madeNode() : tree.fresh();
            if (part == 0 && mode() >= MANY) {
                tree.nodes.set(target, HEAD, 0);
                tree.nodes.set(target, TAIL, 0);
                whole(target, type, field, depth);
            } else {
                tree.clearNode(target, kind());
                single(target, kind(), sc.fields.at(type, field, F_TYPE), depth);
            }
            if (alive) {
                tree.settle(sc, type, field, record);
            }
            finishText();
            return alive;
        }

        void printMessage(Schema schemaHere, Tree of, Bytes into) {
            sc = schemaHere;
            tree = of;
            out = into;
            out.empty();
            out.addAll(sc.text, sc.types.at(of.type, TY_NAME), sc.types.at(of.type, TY_NAME_LEN));
            printRecord(ROOT, of.type, 1);
        }

        private void printRecord(int rec, int k, int depth) {
            char before = '{';
            for (int n = tree.first(rec), turn = 0; n != 0 && turn < TURNS; n = tree.next(n), turn++) {
                if (tree.shape(n) != A_STRANGER) {
                    int j = sc.fields.at(k, tree.nodes.at(n, TAG), F_ORDER);
                    out.add(before);
                    out.addAll(sc.text, sc.fields.at(k, j, F_NAME), sc.fields.at(k, j, F_NAME_LEN));
                    out.add(':');
                    printField(n, k, j, depth);
                    before = ',';
                }
            }
            if (before == '{') {
                out.add('{');
            }
            out.add('}');
        }

        private void printField(int node, int k, int j, int depth) {
            int mode = sc.fields.at(k, j, F_MODE);
            int kind = sc.fields.at(k, j, F_KIND);
            int type = sc.fields.at(k, j, F_TYPE);
            if (mode <= MAYBE) {
                printValue(node, kind, type, depth);
                return;
            }
            char before = mode == MANY ? '[' : '<';
            for (int n = tree.first(node), turn = 0; n != 0 && turn < TURNS; n = tree.next(n), turn++) {
                out.add(before);
                if (mode == MAP) {
                    printKey(n, sc.fields.at(k, j, F_KEY));
                }
                printValue(n, kind, type, depth);
                before = ',';
            }
            out.add(mode == MANY ? ']' : '>');
        }

        private void printKey(int node, int kind) {
            if (kind == TEXT) {
                printString(tree.nodes.at(node, KEY_OFF), tree.nodes.at(node, KEY_LEN));
            } else {
                printNumber(tree.nodes.num(node, KEY), kind);
            }
            out.add(':');
        }

        private void printValue(int node, int kind, int type, int depth) {
            if (kind == RECORD && depth < MOST_DEEP) {
                printRecord(node, type, depth + 1);
            } else if (kind == TEXT || kind == BYTES) {
                printString(tree.nodes.at(node, OFF), tree.nodes.at(node, LEN));
            } else if (kind == BOOL) {
                printWord(tree.nodes.num(node, NUM) != 0 ? "true" : "false");
            } else {
                long v = tree.nodes.num(node, NUM);
                int c = kind == ENUM ? sc.numbered(type, v) : -1;
                if (c >= 0) {
                    int name = sc.fields.at(type, c, F_NAME);
                    out.addAll(sc.text, name, sc.fields.at(type, c, F_NAME_LEN));
                } else {
                    printNumber(v, kind);
                }
            }
        }

        private void printWord(String word) {
            for (int i = 0; i < word.length(); i++) {
                out.add(word.charAt(i));
            }
        }

        private void printNumber(long v, int kind) {
            boolean below = v < 0 && kind != ULONG && kind != FIXLONG;
            long rest = below ? -v : v;
            int from = digits.length;
            while (from > 0 && (from == digits.length || rest != 0)) {
                // rest counts without sign, so that its tenth is its half by five
                long tenth = (rest >>> 1) / 5;
                from--;
                digits[from] = (byte) ('0' + (rest - tenth * 10));
                rest = tenth;
            }
            if (below) {
                out.add('-');
            }
            for (int i = from; i < digits.length; i++) {
                out.add(digits[i]);
            }
        }

        private void printString(int off, int len) {
            out.add('"');
            for (int i = 0; i < len; i++) {
                int b = tree.pool.at(off + i);
                if (b < 32 || b > 126) {
                    out.add('\\');
                    out.add('x');
                    printHex(b >> 4);
                    printHex(b & 15);
                } else {
                    if (b == '"' || b == '\\') {
                        out.add('\\');
                    }
                    out.add(b);
                }
            }
            out.add('"');
        }

        private void printHex(int digit) {
            out.add(digit < 10 ? '0' + digit : 'a' + digit - 10);
        }
    }

    /** The formats that go byte by byte: STREAM and LINEAR. */
    private static final class Serial {
        private Schema sc;
        private Tree tree;
        /** The row that is read or written. */
        private Bytes row;
        private int at, items;
        int fault, place;
        private boolean strange;

        Serial(Schema empty, Tree none, Bytes nowhere) {
            sc = empty;
            tree = none;
            row = nowhere;
        }

        private void begin(Schema schemaHere, Tree treeHere, Bytes rowHere) {
            sc = schemaHere;
            tree = treeHere;
            row = rowHere;
            at = 0;
            items = 0;
            fault = 0;
            place = 0;
            strange = false;
        }

        private void fail(int number, int where) {
            if (fault == 0) {
                fault = number;
                place = where;
            }
        }

        /** READS a STREAM on into the record at the root of a tree: the fault. */
        int takeStream(Schema schemaHere, Tree into, Bytes from) {
            begin(schemaHere, into, from);
            streamRecord(ROOT, into.type, row.n, 1);
            return fault;
        }

        private void streamRecord(int rec, int k, int end, int depth) {
            for (int turn = 0; turn < TURNS && fault == 0 && at < end; turn++) {
                int keyAt = at;
                long key = streamKey(end);
                int wire = (int) (key & 7);
                int j = sc.numbered(k, key >>> 3);
                if (fault != 0) {
                    return;
                }
                if (j < 0 || !isWireOf(k, j, wire)) {
                    int from = at;
                    skipValue(wire, end);
                    if (fault == 0) {
                        tree.addStranger(rec, key, row, from, at - from);
                    }
                } else if (sc.fields.at(k, j, F_MODE) == MAP) {
                    streamEntry(tree.come(sc, k, j, rec), k, j, end, depth, keyAt);
                } else if (sc.fields.at(k, j, F_MODE) == MANY) {
                    streamItems(tree.come(sc, k, j, rec), k, j, wire, end, depth, keyAt);
                } else {
                    streamValue(tree.come(sc, k, j, rec), sc.fields.at(k, j, F_KIND),
                        sc.fields.at(k, j, F_TYPE), end, depth, keyAt);
                }
                if (j >= 0) {
                    tree.settle(sc, k, j, rec);
                }
            }
        }

        private long streamKey(int end) {
            int keyAt = at;
            long key = varint(end);
            long number = key >>> 3;
            int wire = (int) (key & 7);
            if (fault == 0 && (number == 0 || number > 536870911)) {
                fail(3, keyAt);
            }
            if (fault == 0 && (wire == 3 || wire == 4 || wire > 5)) {
                fail(4, keyAt);
            }
            return key;
        }

        private boolean isWireOf(int k, int j, int wire) {
            int mode = sc.fields.at(k, j, F_MODE);
            int kind = sc.fields.at(k, j, F_KIND);
            boolean packed = mode == MAP || mode == MANY && isNumber(kind);
            return packed && wire == 2 || mode != MAP && wire == wireOf(kind);
        }

        private long varint(int end) {
            int start = at;
            long v = 0;
            for (int i = 0; i < 10 && fault == 0; i++) {
                boolean ends = at < 0 || at >= end || at >= row.data.length;
                int b = ends ? 0 : row.data[at] & 255;
                if (ends || i == 9 && b > 1) {
                    fault = ends ? 1 : 2;
                    place = ends ? end : start;
                    return 0;
                }
                at++;
                v |= (long) (b & 127) << 7 * i;
                if (b < 128) {
                    return v;
                }
            }
            return v;
        }

        /** How many bytes come, as a VARINT tells; they are all there without a fault. */
        private int streamLength(int end) {
            long len = varint(end);
            if (fault == 0 && (len < 0 || len > end - at)) {
                fail(1, end);
            }
            return fault == 0 ? (int) len : 0;
        }

        private long fewBytes(int count, int end) {
            if (at + count > end) {
                fail(1, end);
                return 0;
            }
            at += count;
            return row.littleAt(at - count, count);
        }

        private void skipValue(int wire, int end) {
            if (wire == 0) {
                varint(end);
            } else if (wire == 2) {
                int len = streamLength(end);
                at += len;
            } else {
                fewBytes(wire == 1 ? 8 : 4, end);
            }
        }

        private long streamNumber(int kind, int end) {
            int wire = wireOf(kind);
            if (wire != 0) {
                return fewBytes(wire == 1 ? 8 : 4, end);
            }
            long v = varint(end);
            if (kind == ZINT) {
                return (int) ((v & 0xffffffffL) >>> 1 ^ -(v & 1));
            }
            return kind == ZLONG ? v >>> 1 ^ -(v & 1) : narrow(kind, v);
        }

        private void streamValue(int node, int kind, int type, int end, int depth, int keyAt) {
            if (isNumber(kind)) {
                tree.nodes.set(node, NUM, streamNumber(kind, end));
                return;
            }
            int len = streamLength(end);
            if (fault != 0) {
                return;
            }
            if (kind == RECORD) {
                if (depth >= MOST_DEEP) {
                    fail(6, keyAt);
                } else {
                    streamRecord(node, type, at + len, depth + 1);
                }
                return;
            }
            if (kind == TEXT && !row.isUtf8(at, len)) {
                fail(5, at);
                return;
            }
            tree.setString(node, row, at, len);
            at += len;
        }

        private void streamItems(int list, int k, int j, int wire, int end, int depth, int keyAt) {
            int kind = sc.fields.at(k, j, F_KIND);
            if (wire == 2 && isNumber(kind)) {
                int stop = streamLength(end) + at;
                for (int turn = 0; turn < TURNS && fault == 0 && at < stop; turn++) {
                    long v = streamNumber(kind, stop);
                    int n = tree.append(list);
                    tree.clearNode(n, kind);
                    tree.nodes.set(n, NUM, v);
                }
                return;
            }
            int n = tree.append(list);
            tree.clearNode(n, kind);
            streamValue(n, kind, sc.fields.at(k, j, F_TYPE), end, depth, keyAt);
        }

        private void streamEntry(int map, int k, int j, int end, int depth, int keyAt) {
            int kind = sc.fields.at(k, j, F_KIND);
            int type = sc.fields.at(k, j, F_TYPE);
            int keyKind = sc.fields.at(k, j, F_KEY);
            int stop = streamLength(end) + at;
            int keyNode = tree.fresh();
            int item = tree.fresh();
            boolean lacks = true;
            tree.clearNode(item, kind);
            tree.nodes.set(item, NUM, kind == ENUM ? sc.fields.num(type, 0, F_NUMBER) : 0);
            for (int turn = 0; turn < TURNS && fault == 0 && at < stop; turn++) {
                int partAt = at;
                long part = streamKey(stop);
                if (fault != 0) {
                    return;
                }
                if (part == 8 + wireOf(keyKind)) {
                    streamValue(keyNode, keyKind, NO, stop, depth, partAt);
                } else if (part == 16 + wireOf(kind)) {
                    tree.clearNode(item, kind);
                    streamValue(item, kind, type, stop, depth, partAt);
                    lacks = false;
                } else {
                    skipValue((int) (part & 7), stop);
                }
            }
            if (fault == 0 && lacks && kind == RECORD && depth >= MOST_DEEP) {
                fail(6, keyAt);
            }
            if (fault == 0) {
                tree.moveNode(item, tree.keyed(map, keyKind, keyNode, true));
            }
        }

        /** WRITES a message as a STREAM. */
        void giveStream(Schema schemaHere, Tree of, Bytes into) {
            begin(schemaHere, of, into);
            into.empty();
            streamOut(ROOT, of.type, 1);
        }

        private void streamOut(int rec, int k, int depth) {
            for (int n = tree.first(rec), turn = 0; n != 0 && turn < TURNS; n = tree.next(n), turn++) {
                int j = sc.fields.at(k, tree.nodes.at(n, TAG), F_ORDER);
                int mode = sc.fields.at(k, j, F_MODE);
                if (tree.shape(n) == A_STRANGER) {
                    row.addVarint(tree.nodes.num(n, NUM));
                    row.addAll(tree.pool, tree.nodes.at(n, OFF), tree.nodes.at(n, LEN));
                } else if (mode == MAP) {
                    entriesOut(n, k, j, depth);
                } else if (mode == MANY) {
                    itemsOut(n, k, j, depth);
                } else {
                    keyedOut(n, sc.fields.num(k, j, F_NUMBER), k, j, depth);
                }
            }
        }

        private void keyedOut(int node, long number, int k, int j, int depth) {
            int kind = sc.fields.at(k, j, F_KIND);
            row.addVarint(number << 3 | wireOf(kind));
            if (isNumber(kind)) {
                numberOut(tree.nodes.num(node, NUM), kind);
            } else if (kind == RECORD && depth < MOST_DEEP) {
                int start = row.n;
                streamOut(node, sc.fields.at(k, j, F_TYPE), depth + 1);
                row.addLengthAhead(start);
            } else {
                row.addVarint(tree.nodes.at(node, LEN));
                row.addAll(tree.pool, tree.nodes.at(node, OFF), tree.nodes.at(node, LEN));
            }
        }

        private void numberOut(long v, int kind) {
            int wire = wireOf(kind);
            if (wire != 0) {
                row.addLittle(v, wire == 1 ? 8 : 4);
            } else if (kind == ZINT || kind == ZLONG) {
                row.addVarint(v << 1 ^ v >> 63);
            } else {
                row.addVarint(v);
            }
        }

        private void itemsOut(int list, int k, int j, int depth) {
            int kind = sc.fields.at(k, j, F_KIND);
            long number = sc.fields.num(k, j, F_NUMBER);
            if (isNumber(kind)) {
                row.addVarint(number << 3 | 2);
                int start = row.n;
                for (int n = tree.first(list), turn = 0; n != 0 && turn < TURNS; n = tree.next(n), turn++) {
                    numberOut(tree.nodes.num(n, NUM), kind);
                }
                row.addLengthAhead(start);
                return;
            }
            for (int n = tree.first(list), turn = 0; n != 0 && turn < TURNS; n = tree.next(n), turn++) {
                keyedOut(n, number, k, j, depth);
            }
        }

        private void entriesOut(int map, int k, int j, int depth) {
            int keyKind = sc.fields.at(k, j, F_KEY);
            for (int n = tree.first(map), turn = 0; n != 0 && turn < TURNS; n = tree.next(n), turn++) {
                row.addVarint(sc.fields.num(k, j, F_NUMBER) << 3 | 2);
                int start = row.n;
                row.addVarint(8 + wireOf(keyKind));
                if (keyKind == TEXT) {
                    row.addVarint(tree.nodes.at(n, KEY_LEN));
                    row.addAll(tree.pool, tree.nodes.at(n, KEY_OFF), tree.nodes.at(n, KEY_LEN));
                } else {
                    numberOut(tree.nodes.num(n, KEY), keyKind);
                }
                keyedOut(n, 2, k, j, depth);
                row.addLengthAhead(start);
            }
        }

        /** READS a LINEAR row into a tree that has only its root: the fault. */
        int takeLinear(Schema schemaHere, Tree into, Bytes from) {
            begin(schemaHere, into, from);
            linearRecord(ROOT, into.type, 1);
            if (fault == 0 && at < row.n) {
                fail(10, at);
            }
            return fault;
        }

        private void linearRecord(int rec, int k, int depth) {
            if (depth > MOST_DEEP) {
                fail(6, at);
            }
            for (int j = 0; j < sc.fieldCount(k) && fault == 0; j++) {
                int mode = sc.fields.at(k, j, F_MODE);
                int one = sc.fields.at(k, j, F_ONE);
                if (one >= 0) {
                    if (j == sc.ones.at(k, one, O_FIRST)) {
                        linearOne(rec, k, one, depth);
                    }
                } else if (mode >= MANY) {
                    linearItems(rec, k, j, depth);
                } else if (mode == SINGLE && sc.fields.at(k, j, F_KIND) != RECORD || isThere()) {
                    linearField(rec, k, j, depth);
                }
            }
        }

        private void linearField(int rec, int k, int j, int depth) {
            if (fault == 0) {
                int n = tree.come(sc, k, j, rec);
                linearValue(n, sc.fields.at(k, j, F_KIND), sc.fields.at(k, j, F_TYPE), depth);
                tree.settle(sc, k, j, rec);
            }
        }

        /** Four or eight bytes as a number without sign. */
        private long linearBig(int count) {
            if (fault == 0 && row.n - at < count) {
                fail(1, row.n);
            }
            if (fault != 0) {
                return 0;
            }
            at += count;
            return row.bigAt(at - count, count);
        }

        private boolean isThere() {
            int from = at;
            long v = linearBig(4);
            if (fault == 0 && v > 1) {
                fail(2, from);
            }
            return fault == 0 && v == 1;
        }

        private void linearOne(int rec, int k, int one, int depth) {
            int from = at;
            long number = linearBig(4);
            int j = sc.numbered(k, number);
            if (fault != 0 || number == 0) {
                return;
            }
            if (j < 0 || sc.fields.at(k, j, F_ONE) != one) {
                fail(8, from);
                return;
            }
            linearField(rec, k, j, depth);
        }

        private void linearValue(int node, int kind, int type, int depth) {
            int from = at;
            if (kind == RECORD) {
                linearRecord(node, type, depth + 1);
            } else if (kind == TEXT || kind == BYTES) {
                linearString(node, kind);
            } else if (kind == BOOL) {
                tree.nodes.set(node, NUM, isThere() ? 1 : 0);
            } else if (kind == ENUM) {
                int v = (int) linearBig(4);
                if (fault == 0 && sc.numbered(type, v) < 0) {
                    fail(4, from);
                }
                tree.nodes.set(node, NUM, v);
            } else {
                tree.nodes.set(node, NUM, narrow(kind, linearBig(bitsOf(kind) / 8)));
            }
        }

        private void linearString(int node, int kind) {
            long len = linearBig(4);
            if (fault == 0 && len > row.n - at) {
                fail(1, row.n);
            }
            if (fault == 0 && kind == TEXT && !row.isUtf8(at, (int) len)) {
                fail(5, at);
            }
            if (fault != 0) {
                return;
            }
            tree.setString(node, row, at, (int) len);
            at += (int) len;
            for (int behind = (int) len; behind % 4 != 0 && fault == 0; behind++) {
                if (at >= row.n) {
                    fail(1, row.n);
                } else if (row.at(at) != 0) {
                    fail(3, at);
                }
                at++;
            }
        }

        private void linearItems(int rec, int k, int j, int depth) {
            int kind = sc.fields.at(k, j, F_KIND);
            int type = sc.fields.at(k, j, F_TYPE);
            boolean map = sc.fields.at(k, j, F_MODE) == MAP;
            int from = at;
            long count = linearBig(4);
            if (fault == 0 && count > MOST_VALUES - items) {
                fail(7, from);
            }
            int list = fault == 0 && count > 0 ? tree.come(sc, k, j, rec) : 0;
            items += fault == 0 ? (int) count : 0;
            int keyBefore = 0;
            for (long i = 0; i < count && fault == 0; i++) {
                int item = 0;
                if (map) {
                    keyBefore = linearKey(keyBefore, sc.fields.at(k, j, F_KEY));
                    item = fault == 0 ? tree.keyed(list, sc.fields.at(k, j, F_KEY), keyBefore, true) : 0;
                } else {
                    item = tree.append(list);
                }
                if (fault == 0) {
                    tree.clearNode(item, kind);
                    linearValue(item, kind, type, depth);
                }
            }
        }

        /** Reads a MAP's key, which is above the one before (0: there is none). */
        private int linearKey(int before, int keyKind) {
            int from = at;
            int key = tree.fresh();
            linearValue(key, keyKind, NO, 0);
            if (fault == 0 && before != 0 && !tree.isBelow(before, key, keyKind)) {
                fail(9, from);
            }
            return key;
        }

        /** WRITES a message as LINEAR: whether it can be. */
        boolean giveLinear(Schema schemaHere, Tree of, Bytes into) {
            begin(schemaHere, of, into);
            into.empty();
            linearOut(ROOT, of.type, 1);
            return !strange;
        }

        private void linearOut(int rec, int k, int depth) {
            for (int j = 0; j < sc.fieldCount(k); j++) {
                int one = sc.fields.at(k, j, F_ONE);
                int n = tree.fieldNode(sc, k, j, rec);
                int mode = sc.fields.at(k, j, F_MODE);
                if (one >= 0) {
                    if (j == sc.ones.at(k, one, O_FIRST)) {
                        oneOut(rec, k, one, depth);
                    }
                } else if (mode >= MANY) {
                    linearItemsOut(n, k, j, depth);
                } else if (sc.isPlain(k, j) && n == 0) {
                    defaultOut(k, j);
                } else {
                    if (!sc.isPlain(k, j)) {
                        row.addBig(n != 0 ? 1 : 0, 4);
                    }
                    if (n != 0) {
                        valueOut(n, sc.fields.at(k, j, F_KIND), sc.fields.at(k, j, F_TYPE), depth);
                    }
                }
            }
        }

        private void oneOut(int rec, int k, int one, int depth) {
            for (int i = 0; i < sc.ones.at(k, one, O_COUNT); i++) {
                int j = sc.ones.at(k, one, O_FIRST) + i;
                int n = tree.fieldNode(sc, k, j, rec);
                if (n != 0) {
                    row.addBig(sc.fields.num(k, j, F_NUMBER), 4);
                    valueOut(n, sc.fields.at(k, j, F_KIND), sc.fields.at(k, j, F_TYPE), depth);
                    return;
                }
            }
            row.addBig(0, 4);
        }

        private void defaultOut(int k, int j) {
            int kind = sc.fields.at(k, j, F_KIND);
            if (isNumber(kind)) {
                linearNumberOut(sc.fields.num(k, j, F_DEFAULT), kind, sc.fields.at(k, j, F_TYPE));
            } else {
                stringOut(sc.defaults, sc.fields.at(k, j, F_DEFAULT_AT),
                    sc.fields.at(k, j, F_DEFAULT_LEN));
            }
        }

        private void valueOut(int node, int kind, int type, int depth) {
            if (kind == RECORD && depth < MOST_DEEP) {
                linearOut(node, type, depth + 1);
            } else if (isNumber(kind)) {
                linearNumberOut(tree.nodes.num(node, NUM), kind, type);
            } else {
                stringOut(tree.pool, tree.nodes.at(node, OFF), tree.nodes.at(node, LEN));
            }
        }

        private void linearNumberOut(long v, int kind, int type) {
            boolean known = kind != ENUM;
            for (int c = 0; !known && c < sc.types.at(type, TY_COUNT); c++) {
                known = sc.fields.num(type, c, F_NUMBER) == v;
            }
            strange = strange || !known;
            row.addBig(v, bitsOf(kind) == 64 ? 8 : 4);
        }

        private void stringOut(Bytes from, int off, int len) {
            row.addBig(len, 4);
            row.addAll(from, off, len);
            for (int behind = len; behind % 4 != 0; behind++) {
                row.add(0);
            }
        }

        private void linearItemsOut(int list, int k, int j, int depth) {
            int keyKind = sc.fields.at(k, j, F_KEY);
            row.addBig(tree.count(list), 4);
            for (int n = tree.first(list), turn = 0; n != 0 && turn < TURNS; n = tree.next(n), turn++) {
                if (sc.fields.at(k, j, F_MODE) == MAP) {
                    if (keyKind == TEXT) {
                        stringOut(tree.pool, tree.nodes.at(n, KEY_OFF), tree.nodes.at(n, KEY_LEN));
                    } else {
                        linearNumberOut(tree.nodes.num(n, KEY), keyKind, NO);
                    }
                }
                valueOut(n, sc.fields.at(k, j, F_KIND), sc.fields.at(k, j, F_TYPE), depth);
            }
        }
    }

    /** The format of words and pointers: SLOTTED. */
    private static final class Slotted {
        private static final int MOST_WORDS = 1000, TO_RECORD = 0, TO_BYTES = 2, TO_POINTERS = 6,
            TO_RECORDS = 7;
        private Schema sc;
        private Tree tree;
        private Bytes row;
        /** How many words the row has, or those that are written so far; and those read. */
        private long words;
        private final long[] wordsRead = new long[ROOM / 8];
        private int walked, items;
        int fault, place;
        /** What the latest pointer leads to: where, how many data words, pointers, items. */
        private int target, data, pointers;
        private long count;
        /** Nodes for the key and the one before of a MAP at each depth, there also when room ends. */
        private int keyNodes;

        Slotted(Schema empty, Tree none, Bytes nowhere) {
            sc = empty;
            tree = none;
            row = nowhere;
        }

        private void begin(Schema schemaHere, Tree treeHere, Bytes rowHere) {
            sc = schemaHere;
            tree = treeHere;
            row = rowHere;
            walked = 0;
            items = 0;
            fault = 0;
            place = 0;
            words = 0;
        }

        private void fail(int number, int where) {
            if (fault == 0) {
                fault = number;
                place = where;
            }
        }

        // ---- the LAYOUT of a MAP's records: key, then item

        private static int itemPlace(int keyKind, int kind) {
            return isNumber(keyKind) ? Math.max(bitsOf(keyKind), bitsOf(kind)) : 0;
        }

        private static int entryData(int keyKind, int kind) {
            int bits = isNumber(keyKind) ? bitsOf(keyKind) : 0;
            if (isNumber(kind)) {
                bits = itemPlace(keyKind, kind) + bitsOf(kind);
            }
            return (bits + 63) / 64;
        }

        private static int entryPointers(int keyKind, int kind) {
            return (isNumber(keyKind) ? 0 : 1) + (isNumber(kind) ? 0 : 1);
        }

        private static int sortOf(int kind) {
            if (!isNumber(kind)) {
                return kind == RECORD ? TO_RECORDS : TO_POINTERS;
            }
            int bits = bitsOf(kind);
            return bits == 1 ? 1 : bits == 16 ? 3 : bits == 32 ? 4 : 5;
        }

        private static long wordsOf(int sort, long count) {
            switch (sort) {
                case 1: return (count + 63) / 64;
                case 2: return (count + 7) / 8;
                case 3: return (count + 3) / 4;
                case 4: return (count + 1) / 2;
                case 5: return count;
                case 6: return count;
                case 7: return count + 1;
                default: return 0;
            }
        }

        // ---- written

        /** WRITES a message SLOTTED. */
        void giveSlotted(Schema schemaHere, Tree of, Bytes into) {
            begin(schemaHere, of, into);
            into.empty();
            claim(1);
            recordOut(0, ROOT, of.type, 1);
        }

        /** Words behind all others: where they begin. */
        private int claim(long count) {
            int from = (int) words;
            words += count;
            for (long i = 0; i < 8 * count; i++) {
                row.add(0);
            }
            return from;
        }

        /** Bits come into words that begin at one; what has no room there is lost. */
        private void putBits(int word, int bit, int size, long v) {
            int from = (word + (bit >> 6)) * 8;
            long mask = size >= 64 ? -1L : (1L << size) - 1;
            long bits = row.littleAt(from, 8) | (v & mask) << (bit & 63);
            for (int i = 0; i < 8; i++) {
                row.change(from + i, (int) (bits >>> 8 * i));
            }
        }

        /** A pointer's word: its sort, how far from its end, and the rest of it. */
        private static long pointerWord(int low, int from, int to, long high) {
            return low | (to - from - 1L) << 2 & 0xffffffffL | high << 32;
        }

        private static long sizes(int data, int pointers) {
            return data | (long) pointers << 16;
        }

        private void recordOut(int at, int node, int k, int depth) {
            int dataWords = sc.types.at(k, TY_DATA);
            int size = dataWords + sc.types.at(k, TY_POINTERS);
            int to = size == 0 ? at : claim(size);
            putBits(at, 0, 64, pointerWord(0, at, to, sizes(dataWords, size - dataWords)));
            dataOut(to, node, k);
            pointersOut(to, node, k, depth);
        }

        private void dataOut(int to, int node, int k) {
            for (int n = tree.first(node), turn = 0; n != 0 && turn < TURNS; n = tree.next(n), turn++) {
                if (tree.shape(n) == A_STRANGER) {
                    return;
                }
                int j = sc.fields.at(k, tree.nodes.at(n, TAG), F_ORDER);
                int at = sc.fields.at(k, j, F_PLACE);
                int flag = sc.fields.at(k, j, F_FLAG);
                boolean inOne = sc.fields.at(k, j, F_ONE) >= 0;
                long v = tree.nodes.num(n, NUM);
                if (flag >= 0) {
                    putBits(to, flag, inOne ? 16 : 1, inOne ? sc.fields.at(k, j, F_TAG) : 1);
                }
                if (at >= 0) {
                    long before = sc.isPlain(k, j) ? sc.fields.num(k, j, F_DEFAULT) : 0;
                    int bits = inOne ? 64 : bitsOf(sc.fields.at(k, j, F_KIND));
                    putBits(to, at, bits, v ^ before);
                }
            }
        }

        private void pointersOut(int to, int node, int k, int depth) {
            int from = to + sc.types.at(k, TY_DATA);
            for (int p = 0; p < sc.types.at(k, TY_POINTERS) && depth <= MOST_DEEP; p++) {
                for (int n = tree.first(node), turn = 0; n != 0 && turn < TURNS; n = tree.next(n), turn++) {
                    int j = sc.fields.at(k, tree.nodes.at(n, TAG), F_ORDER);
                    if (tree.shape(n) != A_STRANGER && sc.fields.at(k, j, F_POINTER) == p) {
                        objectOut(from + p, n, k, j, depth);
                    }
                }
            }
        }

        private void objectOut(int at, int node, int k, int j, int depth) {
            int mode = sc.fields.at(k, j, F_MODE);
            if (mode == MAP) {
                mapOut(at, node, k, j, depth);
            } else if (mode == MANY) {
                listOut(at, node, sc.fields.at(k, j, F_KIND), sc.fields.at(k, j, F_TYPE), depth);
            } else {
                int kind = sc.fields.at(k, j, F_KIND);
                valueOut(at, node, kind, sc.fields.at(k, j, F_TYPE), mode == MAYBE, depth);
            }
        }

        /** What a pointer leads to; of none a pointer of 0 may be enough. */
        private void valueOut(int at, int node, int kind, int type, boolean noneIsZero,
                int depth) {
            if (kind == RECORD && depth < MOST_DEEP) {
                recordOut(at, node, type, depth + 1);
            } else {
                int len = tree.nodes.at(node, LEN);
                if (len > 0 || !noneIsZero) {
                    stringOut(at, tree.nodes.at(node, OFF), len, kind);
                }
            }
        }

        private void stringOut(int at, int off, int len, int kind) {
            long size = kind == TEXT ? len + 1 : len;
            int to = claim(wordsOf(TO_BYTES, size));
            putBits(at, 0, 64, pointerWord(1, at, to, TO_BYTES | size << 3));
            for (int i = 0; i < len; i++) {
                row.change(to * 8 + i, tree.pool.at(off + i));
            }
        }

        private void listOut(int at, int list, int kind, int type, int depth) {
            int sort = sortOf(kind);
            int size = tree.count(list);
            if (kind == RECORD) {
                recordsOut(at, list, type, size, depth);
                return;
            }
            int to = claim(wordsOf(sort, size));
            putBits(at, 0, 64, pointerWord(1, at, to, sort | (long) size << 3));
            int i = 0;
            for (int n = tree.first(list), turn = 0; n != 0 && turn < TURNS; n = tree.next(n), turn++) {
                if (isNumber(kind)) {
                    putBits(to, i * bitsOf(kind), bitsOf(kind), tree.nodes.num(n, NUM));
                } else {
                    valueOut(to + i, n, kind, type, true, depth);
                }
                i++;
            }
        }

        private int recordListOut(int at, int size, int dataWords, int pointerWords) {
            long all = (long) size * (dataWords + pointerWords);
            int to = claim(all + 1);
            putBits(at, 0, 64, pointerWord(1, at, to, TO_RECORDS | all << 3));
            putBits(to, 0, 64, (long) size << 2 | sizes(dataWords, pointerWords) << 32);
            return to + 1;
        }

        private void recordsOut(int at, int list, int type, int size, int depth) {
            int dataWords = sc.types.at(type, TY_DATA);
            int each = dataWords + sc.types.at(type, TY_POINTERS);
            int from = recordListOut(at, size, dataWords, each - dataWords);
            int to = from;
            for (int n = tree.first(list), turn = 0; n != 0 && turn < TURNS; n = tree.next(n), turn++) {
                dataOut(to, n, type);
                to += each;
            }
            to = from;
            for (int n = tree.first(list), turn = 0; n != 0 && turn < TURNS; n = tree.next(n), turn++) {
                pointersOut(to, n, type, depth + 1);
                to += each;
            }
        }

        private void mapOut(int at, int map, int k, int j, int depth) {
            int keyKind = sc.fields.at(k, j, F_KEY);
            int kind = sc.fields.at(k, j, F_KIND);
            int dataWords = entryData(keyKind, kind);
            int each = dataWords + entryPointers(keyKind, kind);
            int from = recordListOut(at, tree.count(map), dataWords, each - dataWords);
            int to = from;
            for (int n = tree.first(map), turn = 0; n != 0 && turn < TURNS; n = tree.next(n), turn++) {
                if (isNumber(keyKind)) {
                    putBits(to, 0, bitsOf(keyKind), tree.nodes.num(n, KEY));
                }
                if (isNumber(kind)) {
                    putBits(to, itemPlace(keyKind, kind), bitsOf(kind), tree.nodes.num(n, NUM));
                }
                to += each;
            }
            to = from + dataWords;
            for (int n = tree.first(map), turn = 0; n != 0 && turn < TURNS; n = tree.next(n), turn++) {
                int len = tree.nodes.at(n, KEY_LEN);
                if (keyKind == TEXT && len > 0) {
                    stringOut(to, tree.nodes.at(n, KEY_OFF), len, TEXT);
                }
                if (!isNumber(kind)) {
                    int type = sc.fields.at(k, j, F_TYPE);
                    valueOut(keyKind == TEXT ? to + 1 : to, n, kind, type, true, depth);
                }
                to += each;
            }
        }

        // ---- read

        /** READS a SLOTTED row into a tree that has only its root: the fault. */
        int takeSlotted(Schema schemaHere, Tree into, Bytes from) {
            begin(schemaHere, into, from);
            words = row.n / 8;
            for (int i = 0; i < words && i < wordsRead.length; i++) {
                wordsRead[i] = row.littleAt(8 * i, 8);
            }
            keyNodes = tree.fresh();
            for (int i = 1; i < 2 * MOST_DEEP + 2; i++) {
                tree.fresh();
            }
            if (row.n == 0 || row.n % 8 != 0) {
                fail(1, row.n);
            } else if (wordAt(0) == 0) {
                recordIn(0, 0, 0, ROOT, into.type, 1);
            } else if (leads(0, TO_RECORD)) {
                recordIn(target, data, pointers, ROOT, into.type, 1);
            }
            return fault;
        }

        private long wordAt(long word) {
            boolean inside = word >= 0 && word < words && word < wordsRead.length;
            return inside ? wordsRead[(int) word] : 0;
        }

        /** Follows a pointer that is not 0 to a record or a list of a SORT. */
        private boolean leads(int at, int wanted) {
            long word = wordAt(at);
            int sort = (int) (word >>> 32) & 7;
            long to = at + 1L + ((int) word >> 2);
            data = (int) (word >>> 32) & 0xffff;
            pointers = (int) (word >>> 48);
            count = word >>> 35;
            long size = wanted == TO_RECORD ? data + pointers : wordsOf(sort, count);
            if ((word & 3) != (wanted == TO_RECORD ? 0 : 1)) {
                fail(2, at * 8);
            } else if (to < 0 || to > words || to + size > words) {
                fail(3, at * 8);
            } else if (wanted != TO_RECORD && sort != wanted) {
                fail(4, at * 8);
            } else {
                target = (int) to;
                walked += (int) Math.max(1, size);
                if (walked > MOST_WORDS) {
                    fail(7, at * 8);
                } else if (wanted != TO_RECORD && wanted != TO_BYTES && wanted != TO_RECORDS) {
                    countItems(at);
                }
            }
            return fault == 0;
        }

        private void countItems(int at) {
            if (count > MOST_VALUES - items) {
                fail(7, at * 8);
            } else {
                items += (int) count;
            }
        }

        /** Looks at the first word of a list of records. */
        private boolean leadsOn(int at) {
            long word = wordAt(target);
            long all = count;
            data = (int) (word >>> 32) & 0xffff;
            pointers = (int) (word >>> 48);
            count = (word & 0xffffffffL) >>> 2;
            if ((word & 3) != 0 || count * (data + pointers) != all) {
                fail(9, target * 8);
            } else {
                countItems(at);
            }
            return fault == 0;
        }

        /** Bits of a record with so many data words; those beyond are 0. */
        private long bitsAt(int from, int dataWords, int bit, int size) {
            if (bit < 0 || bit >> 6 >= dataWords) {
                return 0;
            }
            int word = from + (bit >> 6);
            boolean inside = word >= 0 && word < words && word < wordsRead.length;
            long mask = size >= 64 ? -1L : (1L << size) - 1;
            return inside ? wordsRead[word] >>> (bit & 63) & mask : 0;
        }

        private void recordIn(int from, int dataWords, int pointerWords, int rec, int k, int depth) {
            for (int o = 0; o < sc.oneCount(k); o++) {
                int tag = sc.fields.at(k, sc.ones.at(k, o, O_FIRST), F_FLAG);
                if (bitsAt(from, dataWords, tag, 16) > sc.ones.at(k, o, O_COUNT)) {
                    fail(8, from * 8);
                }
            }
            for (int j = 0; j < sc.fieldCount(k) && fault == 0; j++) {
                if (sc.fields.at(k, j, F_PLACE) >= 0 && isFlagged(from, dataWords, k, j)) {
                    long v = numberAt(from, dataWords, k, j);
                    // records without words cost a row nothing: a node only for what is SET
                    if (!sc.isDefault(k, j, v)) {
                        tree.nodes.set(tree.come(sc, k, j, rec), NUM, v);
                    }
                }
            }
            for (int p = 0; p < sc.types.at(k, TY_POINTERS) && fault == 0; p++) {
                int j = fieldOfPointer(from, dataWords, k, p);
                int at = p < pointerWords ? from + dataWords + p : -1;
                if (j >= 0) {
                    pointerIn(at, from, rec, k, j, depth);
                }
            }
        }

        /** Whether a field's FLAG or TAG says that it is there; it needs none without one. */
        private boolean isFlagged(int from, int dataWords, int k, int j) {
            int flag = sc.fields.at(k, j, F_FLAG);
            if (flag < 0) {
                return true;
            }
            if (sc.fields.at(k, j, F_ONE) >= 0) {
                return bitsAt(from, dataWords, flag, 16) == sc.fields.at(k, j, F_TAG);
            }
            return bitsAt(from, dataWords, flag, 1) == 1;
        }

        private long numberAt(int from, int dataWords, int k, int j) {
            int kind = sc.fields.at(k, j, F_KIND);
            boolean inOne = sc.fields.at(k, j, F_ONE) >= 0;
            int at = sc.fields.at(k, j, F_PLACE);
            long v = bitsAt(from, dataWords, at, inOne ? 64 : bitsOf(kind));
            if (sc.isPlain(k, j)) {
                v ^= sc.fields.num(k, j, F_DEFAULT);
            }
            return narrow(kind, v);
        }

        private int fieldOfPointer(int from, int dataWords, int k, int pointer) {
            for (int j = 0; j < sc.fieldCount(k); j++) {
                if (sc.fields.at(k, j, F_POINTER) == pointer && isFlagged(from, dataWords, k, j)) {
                    return j;
                }
            }
            return -1;
        }

        /** Reads what a record's pointer (-1: it lacks) leads to as a field. */
        private void pointerIn(int at, int from, int rec, int k, int j, int depth) {
            int mode = sc.fields.at(k, j, F_MODE);
            int kind = sc.fields.at(k, j, F_KIND);
            boolean zero = at < 0 || wordAt(at) == 0;
            boolean flagged = sc.fields.at(k, j, F_FLAG) >= 0;
            if (zero && !flagged) {
                return;
            }
            int node = tree.come(sc, k, j, rec);
            if (mode == MAP) {
                mapIn(at, node, k, j, depth);
            } else if (mode == MANY) {
                listIn(at, node, kind, sc.fields.at(k, j, F_TYPE), depth);
            } else {
                valueIn(at, from, node, kind, sc.fields.at(k, j, F_TYPE), depth);
            }
            tree.settle(sc, k, j, rec);
        }

        /** Reads what a pointer leads to; of one that lacks or is 0: what has nothing in it. */
        private void valueIn(int at, int from, int node, int kind, int type, int depth) {
            boolean zero = at < 0 || wordAt(at) == 0;
            if (kind == RECORD) {
                if ((zero || leads(at, TO_RECORD)) && depth >= MOST_DEEP) {
                    fail(6, (at < 0 ? from : at) * 8);
                }
                if (!zero && fault == 0) {
                    recordIn(target, data, pointers, node, type, depth + 1);
                }
            } else if (!zero && leads(at, TO_BYTES)) {
                stringIn(at, node, kind);
            }
        }

        private void stringIn(int at, int node, int kind) {
            int from = target * 8;
            int len = (int) count;
            if (kind == TEXT) {
                len--;
                if (len < 0 || row.at(from + len) != 0 || !row.isUtf8(from, len)) {
                    fail(5, at * 8);
                    return;
                }
            }
            tree.setString(node, row, from, len);
        }

        private void listIn(int at, int list, int kind, int type, int depth) {
            if (!leads(at, sortOf(kind))) {
                return;
            }
            if (kind == RECORD) {
                recordsIn(at, list, type, depth);
                return;
            }
            int from = target;
            int size = (int) count;
            for (int i = 0; i < size && fault == 0; i++) {
                int n = tree.append(list);
                tree.clearNode(n, kind);
                if (isNumber(kind)) {
                    int bit = i * bitsOf(kind);
                    long v = wordAt((long) from + (bit >> 6)) >>> (bit & 63);
                    tree.nodes.set(n, NUM, narrow(kind, kind == BOOL ? v & 1 : v));
                } else {
                    valueIn(from + i, from, n, kind, type, depth);
                }
            }
        }

        private void recordsIn(int at, int list, int type, int depth) {
            if (depth >= MOST_DEEP) {
                fail(6, at * 8);
            }
            if (fault != 0 || !leadsOn(at)) {
                return;
            }
            int from = target + 1;
            int size = (int) count;
            int dataWords = data;
            int pointerWords = pointers;
            for (int i = 0; i < size && fault == 0; i++) {
                int n = tree.append(list);
                tree.clearNode(n, RECORD);
                recordIn(from, dataWords, pointerWords, n, type, depth + 1);
                from += dataWords + pointerWords;
            }
        }

        private void mapIn(int at, int map, int k, int j, int depth) {
            if (!leads(at, TO_RECORDS) || !leadsOn(at)) {
                return;
            }
            int from = target + 1;
            int size = (int) count;
            int dataWords = data;
            int pointerWords = pointers;
            int keyKind = sc.fields.at(k, j, F_KEY);
            for (int i = 0; i < size && fault == 0; i++) {
                int key = keyNodes + 2 * depth + i % 2;
                int before = keyNodes + 2 * depth + (i + 1) % 2;
                keyIn(key, from, dataWords, pointerWords, keyKind);
                if (fault == 0 && i > 0 && !tree.isBelow(before, key, keyKind)) {
                    fail(10, at * 8);
                }
                if (fault == 0) {
                    int item = tree.keyed(map, keyKind, key, true);
                    itemIn(from, dataWords, pointerWords, item, k, j, depth);
                }
                from += dataWords + pointerWords;
            }
        }

        private void keyIn(int key, int from, int dataWords, int pointerWords, int keyKind) {
            tree.clearNode(key, keyKind);
            if (isNumber(keyKind)) {
                long v = bitsAt(from, dataWords, 0, bitsOf(keyKind));
                tree.nodes.set(key, NUM, narrow(keyKind, v));
            } else {
                valueIn(pointerWords > 0 ? from + dataWords : -1, from, key, TEXT, NO, 0);
            }
        }

        private void itemIn(int from, int dataWords, int pointerWords, int item, int k, int j,
                int depth) {
            int keyKind = sc.fields.at(k, j, F_KEY);
            int kind = sc.fields.at(k, j, F_KIND);
            tree.clearNode(item, kind);
            if (isNumber(kind)) {
                long v = bitsAt(from, dataWords, itemPlace(keyKind, kind), bitsOf(kind));
                tree.nodes.set(item, NUM, narrow(kind, v));
            } else {
                int pointer = keyKind == TEXT ? 1 : 0;
                int at = pointer < pointerWords ? from + dataWords + pointer : -1;
                valueIn(at, from, item, kind, sc.fields.at(k, j, F_TYPE), depth);
            }
        }
    }

    /** Says what two schemas read of one another, and where two messages differ. */
    private static final class Judge {
        private static final int ALIKE = 0, WIDER = 1, LOSES = 2, BREAKS = 3;
        private static final int PAIRS = Schema.TYPES * Schema.TYPES;
        private static final int MOST_PATHS = 2 * MOST_VALUES + 2, MOST_PATH = 17 * MOST_DEEP;
        private Schema old, fresh;
        private int format;
        /** Of each pair of records: what is known so far, and whether it is waited for. */
        private final int[] known = new int[PAIRS], waits = new int[PAIRS];
        private int waiting;
        /** The number that the latest pair was judged by. */
        private int number;
        private Tree one, two;
        /** The paths of the latest differences one behind the other, and where each begins. */
        private final Bytes paths = new Bytes(MOST_PATHS * MOST_PATH);
        private final Bytes way = new Bytes(MOST_PATH);
        private final int[] starts = new int[MOST_PATHS];
        private int pathCount;

        Judge(Schema empty, Tree none) {
            old = empty;
            fresh = empty;
            one = none;
            two = none;
        }

        int judgedBy() {
            return number;
        }

        int judgeRecords(Schema oldHere, int a, Schema freshHere, int b, int formatHere) {
            old = oldHere;
            fresh = freshHere;
            format = formatHere;
            waiting = 0;
            for (int i = 0; i < PAIRS; i++) {
                known[i] = -1;
            }
            records(a, b);
            int level = ALIKE;
            boolean changed = true;
            // each round that changes anything adds or raises a pair; a, b is the last of each
            for (int turn = 0; turn < 5 * PAIRS && changed; turn++) {
                int before = waiting;
                changed = false;
                for (int i = Math.min(waiting, PAIRS) - 1; i >= 0; i--) {
                    int pair = waits[i];
                    int a2 = pair / Schema.TYPES;
                    int b2 = pair % Schema.TYPES;
                    level = format == LINEAR ? linearPair(a2, b2) : numberedPair(a2, b2);
                    if (pair >= 0 && pair < PAIRS && level > known[pair]) {
                        known[pair] = level;
                        changed = true;
                    }
                }
                changed = changed || waiting > before;
            }
            return level;
        }

        /** What is known of two records, which are judged from now on. */
        private int records(int a, int b) {
            int pair = a * Schema.TYPES + b;
            if (a < 0 || b < 0 || b >= Schema.TYPES || pair >= PAIRS) {
                return ALIKE;
            }
            if (known[pair] < 0 && waiting >= 0 && waiting < PAIRS) {
                known[pair] = ALIKE;
                waits[waiting] = pair;
                waiting++;
            }
            return Math.max(ALIKE, known[pair]);
        }

        private int numberedPair(int a, int b) {
            number = 0;
            int worst = ALIKE;
            for (int rank = 0; rank < old.fieldCount(a); rank++) {
                int f = old.fields.at(a, rank, F_ORDER);
                int g = fresh.numbered(b, old.fields.num(a, f, F_NUMBER));
                int level = format == STREAM ? streamField(a, f, b, g) : slottedField(a, f, b, g);
                if (level > worst) {
                    worst = level;
                    number = old.fields.at(a, f, F_NUMBER);
                }
            }
            return worst;
        }

        // ---- STREAM

        private int streamField(int a, int f, int b, int g) {
            if (g < 0) {
                return ALIKE;
            }
            int mode = old.fields.at(a, f, F_MODE);
            int newMode = fresh.fields.at(b, g, F_MODE);
            int kind = old.fields.at(a, f, F_KIND);
            int newKind = fresh.fields.at(b, g, F_KIND);
            if (mode == MAP || newMode == MAP) {
                return mode == newMode ? fieldKinds(a, f, b, g) : BREAKS;
            }
            int kinds = fieldKinds(a, f, b, g);
            if (mode == MANY && newMode == MANY) {
                boolean unlike = isNumber(kind) != isNumber(newKind);
                return unlike || wireOf(kind) != wireOf(newKind) ? BREAKS : kinds;
            }
            if (mode == MANY) {
                return isNumber(kind) ? isNumber(newKind) ? LOSES : BREAKS : Math.max(kinds, LOSES);
            }
            if (newMode == MANY) {
                boolean breaks = isNumber(newKind) && wireOf(kind) == 2;
                return breaks ? BREAKS : Math.max(kinds, WIDER);
            }
            boolean loses = old.isPlain(a, f) != fresh.isPlain(b, g)
                || old.isPlain(a, f) && !isSameDefault(a, f, b, g) || isParted(a, f, b, g);
            return loses ? Math.max(kinds, LOSES) : kinds;
        }

        /** Whether NEW's one has another field that OLD has, but not in a one with this. */
        private boolean isParted(int a, int f, int b, int g) {
            int newOne = fresh.fields.at(b, g, F_ONE);
            int oldOne = old.fields.at(a, f, F_ONE);
            for (int h = 0; h < fresh.fieldCount(b) && newOne >= 0; h++) {
                if (h != g && fresh.fields.at(b, h, F_ONE) == newOne) {
                    int e = old.numbered(a, fresh.fields.num(b, h, F_NUMBER));
                    if (e >= 0 && (oldOne < 0 || old.fields.at(a, e, F_ONE) != oldOne)) {
                        return true;
                    }
                }
            }
            return false;
        }

        private boolean isSameDefault(int a, int f, int b, int g) {
            int from = old.fields.at(a, f, F_DEFAULT_AT);
            int newFrom = fresh.fields.at(b, g, F_DEFAULT_AT);
            return old.fields.num(a, f, F_DEFAULT) == fresh.fields.num(b, g, F_DEFAULT)
                && old.defaults.matches(from, old.fields.at(a, f, F_DEFAULT_LEN), fresh.defaults,
                    newFrom, fresh.fields.at(b, g, F_DEFAULT_LEN));
        }

        /** What KINDS say of two fields; of two MAPS of keys and items. */
        private int fieldKinds(int a, int f, int b, int g) {
            int keys = ALIKE;
            if (old.fields.at(a, f, F_MODE) == MAP && fresh.fields.at(b, g, F_MODE) == MAP) {
                keys = kinds(old.fields.at(a, f, F_KEY), NO, fresh.fields.at(b, g, F_KEY), NO);
            }
            int items = kinds(old.fields.at(a, f, F_KIND), old.fields.at(a, f, F_TYPE),
                fresh.fields.at(b, g, F_KIND), fresh.fields.at(b, g, F_TYPE));
            return Math.max(keys, items);
        }

        private int kinds(int kind, int type, int newKind, int newType) {
            if (kind == RECORD && newKind == RECORD) {
                return records(type, newType);
            }
            if (kind == newKind) {
                boolean lacks = format == LINEAR && kind == ENUM && lacksConstant(type, newType);
                return lacks ? BREAKS : ALIKE;
            }
            int held = hasNumbers(newKind, kind) ? WIDER : LOSES;
            boolean numbers = isNumber(kind) && isNumber(newKind);
            if (format == STREAM) {
                if (wireOf(kind) != wireOf(newKind)) {
                    return LOSES;
                }
                if (numbers) {
                    return isFolded(kind) == isFolded(newKind) ? held : LOSES;
                }
                return kind == TEXT && newKind == BYTES ? WIDER : BREAKS;
            }
            if (format == LINEAR) {
                if (kind == TEXT && newKind == BYTES) {
                    return WIDER;
                }
                boolean asMany = numbers && Math.max(32, bitsOf(kind)) == Math.max(32, bitsOf(newKind));
                return asMany && newKind != BOOL && newKind != ENUM ? held : BREAKS;
            }
            return numbers && bitsOf(kind) == bitsOf(newKind) ? held : BREAKS;
        }

        private static boolean isFolded(int kind) {
            return kind == ZINT || kind == ZLONG;
        }

        private boolean lacksConstant(int type, int newType) {
            boolean lacks = false;
            for (int c = 0; c < old.types.at(type, TY_COUNT) && !lacks; c++) {
                lacks = true;
                for (int d = 0; d < fresh.types.at(newType, TY_COUNT); d++) {
                    boolean same = old.fields.num(type, c, F_NUMBER)
                        == fresh.fields.num(newType, d, F_NUMBER);
                    lacks = lacks && !same;
                }
            }
            return lacks;
        }

        // ---- LINEAR

        /** Behind a field or a one of a record: where the next part begins. */
        private static int behindPart(Schema sc, int k, int j) {
            int one = sc.fields.at(k, j, F_ONE);
            return one < 0 ? j + 1 : j + sc.ones.at(k, one, O_COUNT);
        }

        private static int partCount(Schema sc, int k) {
            int count = 0;
            for (int j = 0; j < sc.fieldCount(k); j = Math.max(j + 1, behindPart(sc, k, j))) {
                count++;
            }
            return count;
        }

        private int linearPair(int a, int b) {
            number = 0;
            if (partCount(old, a) != partCount(fresh, b)) {
                return BREAKS;
            }
            int worst = ALIKE;
            int g = 0;
            for (int f = 0; f < old.fieldCount(a); f = Math.max(f + 1, behindPart(old, a, f))) {
                int one = old.fields.at(a, f, F_ONE);
                int least = one < 0 ? old.fields.at(a, f, F_NUMBER) : old.ones.at(a, one, O_LEAST);
                int level = linearPart(a, f, b, g);
                if (level > worst || level == worst && level > ALIKE && least < number) {
                    worst = level;
                    number = least;
                }
                g = behindPart(fresh, b, g);
            }
            return worst;
        }

        private int linearPart(int a, int f, int b, int g) {
            int one = old.fields.at(a, f, F_ONE);
            int newOne = fresh.fields.at(b, g, F_ONE);
            if (one < 0 || newOne < 0) {
                boolean alike = one < 0 && newOne < 0 && linearMode(old, a, f) == linearMode(fresh, b, g);
                return alike ? fieldKinds(a, f, b, g) : BREAKS;
            }
            int worst = ALIKE;
            for (int i = 0; i < old.ones.at(a, one, O_COUNT); i++) {
                int e = f + i;
                int h = fresh.numbered(b, old.fields.num(a, e, F_NUMBER));
                boolean has = h >= 0 && fresh.fields.at(b, h, F_ONE) == newOne;
                worst = Math.max(worst, has ? fieldKinds(a, e, b, h) : BREAKS);
            }
            return worst;
        }

        private static int linearMode(Schema sc, int k, int j) {
            return sc.isRecordField(k, j) ? MAYBE : sc.fields.at(k, j, F_MODE);
        }

        // ---- SLOTTED

        private int slottedField(int a, int f, int b, int g) {
            if (g < 0 || !isSamePlace(a, f, b, g)) {
                return BREAKS;
            }
            int mode = old.fields.at(a, f, F_MODE);
            int newMode = fresh.fields.at(b, g, F_MODE);
            if ((mode >= MANY || newMode >= MANY) && mode != newMode) {
                return BREAKS;
            }
            boolean plain = old.isPlain(a, f) && fresh.isPlain(b, g);
            if (plain && !isSameDefault(a, f, b, g)) {
                return BREAKS;
            }
            return fieldKinds(a, f, b, g);
        }

        private boolean isSamePlace(int a, int f, int b, int g) {
            int one = old.fields.at(a, f, F_ONE);
            int newOne = fresh.fields.at(b, g, F_ONE);
            if (one >= 0 != newOne >= 0) {
                return false;
            }
            if (one >= 0 && (old.fields.at(a, f, F_TAG) != fresh.fields.at(b, g, F_TAG)
                    || fresh.ones.at(b, newOne, O_COUNT) < old.ones.at(a, one, O_COUNT))) {
                return false;
            }
            return old.fields.at(a, f, F_PLACE) == fresh.fields.at(b, g, F_PLACE)
                && old.fields.at(a, f, F_POINTER) == fresh.fields.at(b, g, F_POINTER)
                && old.fields.at(a, f, F_FLAG) == fresh.fields.at(b, g, F_FLAG);
        }

        // ---- where messages differ

        /** How many DIFFERENCES two messages of one record have; their paths are kept. */
        int differences(Schema schemaHere, Tree oneHere, Tree twoHere) {
            old = schemaHere;
            one = oneHere;
            two = twoHere;
            pathCount = 0;
            paths.empty();
            way.empty();
            differBelow(ROOT, ROOT, one.type, 1);
            return pathCount;
        }

        private void differBelow(int x, int y, int k, int depth) {
            for (int rank = 0; rank < old.fieldCount(k); rank++) {
                int n = one.child(x, rank);
                int m = two.child(y, rank);
                int j = old.fields.at(k, rank, F_ORDER);
                int length = way.n;
                way.addAll(old.text, old.fields.at(k, j, F_NAME), old.fields.at(k, j, F_NAME_LEN));
                differAt(n, m, k, j, depth);
                way.n = length;
            }
        }

        /** A field whose nodes are n and m (0: it is not SET there). */
        private void differAt(int n, int m, int k, int j, int depth) {
            if (n != 0 && m != 0 && old.isRecordField(k, j) && depth < MOST_DEEP) {
                way.add('.');
                differBelow(n, m, old.fields.at(k, j, F_TYPE), depth + 1);
            } else if (n != 0 && m != 0) {
                if (!Tree.isSameNode(one, n, two, m)
                        || !Tree.isSameBelow(one, n, two, m, false, 0)) {
                    keepWay();
                }
            } else if (n != m) {
                keepWay();
            }
        }

        private void keepWay() {
            if (pathCount >= 0 && pathCount + 1 < starts.length) {
                paths.addAll(way, 0, way.n);
                pathCount++;
                starts[pathCount] = paths.n;
            }
        }

        boolean hasPath(int k) {
            return k >= 0 && k < pathCount;
        }

        void pathInto(int k, Bytes row) {
            row.empty();
            if (hasPath(k) && k + 1 < starts.length) {
                row.addAll(paths, starts[k], starts[k + 1] - starts[k]);
            }
        }
    }

    /** THE NET with its LETTERS, the server with its CELLS and answers, clients with their calls. */
    private static final class Net {
        private static final int KEPT = CLIENTS * CALLS, WAITING = 4, REMEMBERED = 6,
            BODY = 84 * PART, CELLS_ROW = 0, BEFORE_ROW = 1, RAN_ROW = 2, STACK_ROW = 3;
        /** LETTERS, and behind them the one that is DELIVERED. */
        final Table letters = new Table(1, LETTERS + 1, 6);
        private final Bytes letterText = new Bytes((LETTERS + 1) * PART);
        int letterCount, lost, time, answerCount;
        /** What the server goes by; schema is NO when there is no server. */
        int schema = NO, service, format;
        /** Cells, cells before the call, how often calls were DONE, and what exps come to. */
        private final Table state = new Table(1, 4, Schema.NODES_EACH + 2);
        final Table clients = new Table(1, CLIENTS, 6);
        final Table calls = new Table(1, KEPT, 5);
        /** What is there of answers, by the calls' rows, and of calls at the server behind them. */
        private final Table parts = new Table(1, KEPT + WAITING, 4);
        /** The BODIES that calls sent, then those that come together by parts. */
        private final Bytes[] bodies = new Bytes[2 * KEPT + WAITING];
        private final Bytes nowhere = new Bytes(0);
        private final Table pending = new Table(1, WAITING, 4);
        private final Table answers = new Table(1, REMEMBERED, 2);
        private final Bytes[] answerTexts = new Bytes[REMEMBERED];
        private int touches;
        private boolean dividedByNone;

        Net() {
            for (int i = 0; i < REMEMBERED; i++) {
                answerTexts[i] = new Bytes(BODY);
            }
            letterText.lay(0, letterText, 0, (LETTERS + 1) * PART);
        }

        boolean hasServer() {
            return schema >= 0;
        }

        void close() {
            schema = NO;
            letterCount = 0;
            lost = 0;
            time = 0;
            clients.wipeAll();
            forget();
        }

        void open(int s, int v, int formatHere) {
            close();
            schema = s;
            service = v;
            format = formatHere;
            state.wipeAll();
        }

        /** What a CRASH takes. */
        int forget() {
            int had = answerCount;
            answerCount = 0;
            pending.wipeAll();
            return had;
        }

        int pendingCount() {
            int count = 0;
            for (int i = 0; i < WAITING; i++) {
                count += pending.at(i, P_THERE);
            }
            return count;
        }

        /** A schema is another one: what goes by it is gone. */
        void letGo(int s) {
            if (schema == s) {
                close();
            }
            for (int c = 0; c < CLIENTS; c++) {
                if (hasClient(c) && clients.at(c, CL_SCHEMA) == s) {
                    clients.set(c, CL_THERE, 0);
                }
            }
        }

        boolean hasClient(int c) {
            return clients.at(c, CL_THERE) == 1;
        }

        void join(int c, int s, int v) {
            clients.set(c, CL_SCHEMA, s);
            clients.set(c, CL_SERVICE, v);
            clients.set(c, CL_MADE, 0);
            clients.set(c, CL_BASE, clients.at(c, CL_NEXT));
            clients.set(c, CL_THERE, 1);
        }

        // ---- LETTERS

        private void send(int to, int from, int xid, Bytes body) {
            int of = Math.max(1, (body.n + PART - 1) / PART);
            for (int part = 0; part < of; part++) {
                if (letterCount >= LETTERS) {
                    lost++;
                } else {
                    int len = Math.min(PART, body.n - part * PART);
                    letters.set(letterCount, L_TO, to);
                    letters.set(letterCount, L_FROM, from);
                    letters.set(letterCount, L_XID, xid);
                    letters.set(letterCount, L_PART, part);
                    letters.set(letterCount, L_OF, of);
                    letters.set(letterCount, L_LEN, len);
                    letterText.lay(letterCount * PART, body, part * PART, len);
                    letterCount++;
                }
            }
        }

        private void copyLetter(int from, int to) {
            letters.copyRow(from, to);
            letterText.lay(to * PART, letterText, from * PART, PART);
        }

        boolean hasLetter(int i) {
            return i >= 0 && i < letterCount;
        }

        int letterByte(int i, int b) {
            return b >= 0 && b < letters.at(i, L_LEN) ? letterText.at(i * PART + b) : BAD;
        }

        /** A LETTER is gone from THE NET; it stands behind all others then, to be DELIVERED. */
        void pull(int i) {
            copyLetter(i, LETTERS);
            for (int k = i; k + 1 < letterCount; k++) {
                copyLetter(k + 1, k);
            }
            letterCount--;
        }

        void again(int i) {
            copyLetter(i, letterCount);
            letterCount++;
        }

        /** Keeps the part that is DELIVERED: whether all parts are there. */
        private boolean gather(int r) {
            int part = letters.at(LETTERS, L_PART);
            int of = letters.at(LETTERS, L_OF);
            if (parts.at(r, G_OF) != of) {
                parts.wipe(r);
                parts.set(r, G_OF, of);
                partsAt(r).empty();
            }
            int mask = G_MASK + (part >> 6);
            long bit = 1L << (part & 63);
            if ((parts.num(r, mask) & bit) == 0) {
                parts.set(r, mask, parts.num(r, mask) | bit);
                parts.set(r, G_GOT, parts.at(r, G_GOT) + 1);
                int len = letters.at(LETTERS, L_LEN);
                partsAt(r).lay(part * PART, letterText, LETTERS * PART, len);
            }
            return parts.at(r, G_GOT) == of;
        }

        // ---- at the server

        /** A part comes to the server: the place of the call that is all there now, or -1. */
        int arriveAtServer() {
            int client = letters.at(LETTERS, L_FROM);
            int xid = letters.at(LETTERS, L_XID);
            for (int i = 0; i < answerCount && i < REMEMBERED; i++) {
                if (answers.at(i, 0) == client && answers.at(i, 1) == xid) {
                    if (letters.at(LETTERS, L_PART) == 0) {
                        send(client, SERVER, xid, answerTexts[i]);
                    }
                    return -1;
                }
            }
            int slot = pendingSlot(client, xid);
            touches++;
            pending.set(slot, P_TOUCH, touches);
            if (!gather(KEPT + slot)) {
                return -1;
            }
            pending.set(slot, P_THERE, 0);
            return slot;
        }

        /** Where parts of a call are kept; of one call too many that touched longest ago goes. */
        private int pendingSlot(int client, int xid) {
            int slot = 0;
            for (int i = 0; i < WAITING; i++) {
                boolean there = pending.at(i, P_THERE) == 1;
                if (there && pending.at(i, P_CLIENT) == client && pending.at(i, P_XID) == xid) {
                    return i;
                }
                boolean slotThere = pending.at(slot, P_THERE) == 1;
                boolean older = pending.at(i, P_TOUCH) < pending.at(slot, P_TOUCH);
                slot = slotThere && (!there || older) ? i : slot;
            }
            pending.set(slot, P_THERE, 1);
            pending.set(slot, P_CLIENT, client);
            pending.set(slot, P_XID, xid);
            parts.wipe(KEPT + slot);
            return slot;
        }

        /** A BODY's room, which is made when it is needed first. */
        private Bytes bodyAt(int i) {
            if (i < 0 || i >= bodies.length) {
                return nowhere;
            }
            if (bodies[i] == null) {
                bodies[i] = new Bytes(BODY);
            }
            return bodies[i];
        }

        /** What came together: the answer of a call, or behind these a call at the server. */
        Bytes partsAt(int r) {
            return bodyAt(KEPT + r);
        }

        Bytes callBody(int slot) {
            return partsAt(KEPT + slot);
        }

        /** Remembers an answer to the call that is DELIVERED, and sends it. */
        void reply(Bytes answer) {
            if (answerCount >= REMEMBERED) {
                Bytes oldest = answerTexts[0];
                for (int i = 0; i + 1 < REMEMBERED; i++) {
                    answers.copyRow(i + 1, i);
                    answerTexts[i] = answerTexts[i + 1];
                }
                answerTexts[REMEMBERED - 1] = oldest;
                answerCount = REMEMBERED - 1;
            }
            int client = letters.at(LETTERS, L_FROM);
            int xid = letters.at(LETTERS, L_XID);
            answers.set(answerCount, 0, client);
            answers.set(answerCount, 1, xid);
            if (answerCount >= 0 && answerCount < REMEMBERED) {
                answerTexts[answerCount].become(answer);
                answerCount++;
            }
            send(client, SERVER, xid, answer);
        }

        long cellAt(int i) {
            return state.num(CELLS_ROW, i);
        }

        int ranAt(int j) {
            return state.at(RAN_ROW, j);
        }

        void restoreCells() {
            state.copyRow(BEFORE_ROW, CELLS_ROW);
        }

        /** A call is DONE with a message, as another one: the code. */
        int run(Schema sc, int j, Tree in, Tree out) {
            state.copyRow(CELLS_ROW, BEFORE_ROW);
            state.set(RAN_ROW, j, state.num(RAN_ROW, j) + 1);
            int first = sc.calls.at(service, j, C_FIRST_STEP);
            for (int s = first; s < first + sc.calls.at(service, j, C_STEPS); s++) {
                long v = evaluate(sc, s, in);
                int sort = sc.steps.at(s, ST_SORT);
                if (dividedByNone || sort == STEP_FAIL && v != 0) {
                    restoreCells();
                    return dividedByNone ? 5 : 4;
                }
                int aim = sc.steps.at(s, ST_TARGET);
                if (sort == STEP_CELL) {
                    state.set(CELLS_ROW, aim, v);
                } else if (sort == STEP_OUT) {
                    int kind = sc.fields.at(out.type, aim, F_KIND);
                    out.setNumber(sc, out.type, aim, ROOT, narrow(kind, v));
                }
            }
            return 0;
        }

        /** The exp of a step, worked out NODE by NODE. */
        private long evaluate(Schema sc, int s, Tree in) {
            int top = 0;
            dividedByNone = false;
            for (int i = sc.steps.at(s, ST_FROM); i < sc.steps.at(s, ST_TO); i++) {
                int op = sc.nodes.at(i, N_OP);
                long arg = sc.nodes.num(i, N_ARG);
                if (op <= OP_IN) {
                    long v = op == OP_NUMBER ? arg : op == OP_CELL ? cellAt((int) arg)
                        : fieldValue(sc, (int) arg, in);
                    state.set(STACK_ROW, top, v);
                    top++;
                } else {
                    top = op <= OP_NOT ? top : top - 1;
                    long a = state.num(STACK_ROW, top - 1);
                    state.set(STACK_ROW, top - 1, workOut(op, a, state.num(STACK_ROW, top)));
                }
                if (dividedByNone) {
                    return 0;
                }
            }
            return state.num(STACK_ROW, 0);
        }

        private long workOut(int op, long a, long b) {
            switch (op) {
                case OP_MINUS: return -a;
                case OP_NOT: return a == 0 ? 1 : 0;
                case OP_ADD: return a + b;
                case OP_SUBTRACT: return a - b;
                case OP_TIMES: return a * b;
                case OP_DIVIDE:
                case OP_REST:
                    if (b == 0) {
                        dividedByNone = true;
                        return 0;
                    }
                    return op == OP_DIVIDE ? a / b : a % b;
                case OP_SAME: return a == b ? 1 : 0;
                case OP_OTHER: return a != b ? 1 : 0;
                case OP_LESS: return a < b ? 1 : 0;
                case OP_LESS_SAME: return a <= b ? 1 : 0;
                case OP_MORE: return a > b ? 1 : 0;
                default: return a >= b ? 1 : 0;
            }
        }

        /** What in . NAME tells. */
        private static long fieldValue(Schema sc, int j, Tree in) {
            int k = in.type;
            int node = in.fieldNode(sc, k, j, ROOT);
            boolean number = isNumber(sc.fields.at(k, j, F_KIND));
            if (sc.fields.at(k, j, F_MODE) >= MANY) {
                return in.count(node);
            }
            if (sc.isRecordField(k, j)) {
                return node != 0 ? 1 : 0;
            }
            if (node == 0) {
                return !sc.isPlain(k, j) ? 0 : sc.fields.num(k, j, number ? F_DEFAULT : F_DEFAULT_LEN);
            }
            return in.nodes.num(node, number ? NUM : LEN);
        }

        // ---- at clients

        int callRow(int c, int xid) {
            int i = xid - clients.at(c, CL_BASE);
            return hasClient(c) && i >= 0 && i < clients.at(c, CL_MADE) ? c * CALLS + i : -1;
        }

        /** A part comes to a client: the row of the call whose answer is all there, or -1. */
        int arriveAtClient() {
            int r = callRow(letters.at(LETTERS, L_TO), letters.at(LETTERS, L_XID));
            boolean waits = r >= 0 && calls.at(r, K_STATE) == WAITS;
            return waits && gather(r) ? r : -1;
        }

        void end(int r, int how, int code) {
            calls.set(r, K_STATE, how);
            calls.set(r, K_CODE, code);
        }

        int nextXid(int c) {
            return clients.at(c, CL_NEXT);
        }

        boolean isTired(int c) {
            return clients.at(c, CL_MADE) >= CALLS;
        }

        /** A client makes a call: its XID. */
        int makeCall(int c, int j, Bytes body) {
            int xid = nextXid(c);
            int made = clients.at(c, CL_MADE);
            int r = c * CALLS + made;
            if (made >= CALLS) {
                return FULL;
            }
            clients.set(c, CL_MADE, made + 1);
            clients.set(c, CL_NEXT, xid + 1);
            bodyAt(r).become(body);
            parts.wipe(r);
            end(r, WAITS, 0);
            calls.set(r, K_SENT, 1);
            calls.set(r, K_PLACE, j);
            calls.set(r, K_LAST, time);
            send(SERVER, c, xid, body);
            return xid;
        }

        void oneTick() {
            time++;
            for (int c = 0; c < CLIENTS; c++) {
                for (int i = 0; hasClient(c) && i < clients.at(c, CL_MADE) && i < CALLS; i++) {
                    wake(c, c * CALLS + i, clients.at(c, CL_BASE) + i);
                }
            }
        }

        /** A call that WAITS is sent again, or GIVEN UP, 8 ticks behind its last sending. */
        private void wake(int c, int r, int xid) {
            if (calls.at(r, K_STATE) != WAITS || time - calls.at(r, K_LAST) < 8) {
                return;
            }
            int sent = calls.at(r, K_SENT);
            if (sent >= 4) {
                end(r, GIVEN_UP, 0);
            } else {
                calls.set(r, K_SENT, sent + 1);
                calls.set(r, K_LAST, time);
                send(SERVER, c, xid, bodyAt(r));
            }
        }
    }
}
