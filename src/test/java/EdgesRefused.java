import java.util.function.IntSupplier;

/**
 * The rule behind section 10, of every call: BAD, then NO, then FULL; what is refused changes nothing. All that a
 * house tells is put together ahead of a row of refused calls and behind it.
 */
public final class EdgesRefused {
    private static final int MAX = Integer.MAX_VALUE, MIN = Integer.MIN_VALUE;
    private static final int BAD = Check.BAD, NO = Check.NO, FULL = Check.FULL;
    private static final String SCHEMA = "enum E { A = 1; B = 2; } record A { int x @ 1; bytes y @ 2; maybe E e @ 3; many int l @ 4; map<int, text> m @ 5; A a @ 6; one o { int p @ 7; A q @ 8; } } record B { long r @ 1; } service S { cell n; cell o; call k (A) B @ 3 { n = n + 1; out.r = in.x; } call f (A) B @ 4 { fail 1; } } service T { }";
    private static Check c;
    private static WireHouse x;
    private static String before;

    public static void main(String[] args) {
        tapeAndRows();
        tapeFull();
        schemas();
        fieldsAndNames();
        services();
        writtenOut();
        messages();
        encodes();
        encodesNot();
        decodes();
        paths();
        pathsNothing();
        merges();
        judged();
        serverAndClients();
        calls();
        letters();
        twiceFull();
        countsOfCalls();
        invokeFull();
        printsFull();
        mergesFull();
        faultsOfTexts();
        faultsOfPaths();
        gone();
        withoutAnything();
        Check.end();
    }

    /** Messages 0, 1, 3 of schema 0 and 2 of schema 1; calls that WAIT, are ANSWERED, FAILED; a tape that could be read. */
    private static void begin() {
        c = new Check();
        x = c.house;
        Check.due("schema 0", c.schema(0, SCHEMA), 3);
        Check.due("schema 1", c.schema(1, "record R { int a @ 1; } service U { }"), 1);
        c.read(0, 0, "A{x:3,l:[1,2],m:<1:\"a\">,a:{x:5}}");
        c.read(0, 1, "B{r:1}");
        c.read(1, 2, "R{a:1}");
        c.read(0, 3, "A{x:4,y:\"" + Check.times("z", 40) + "\",a:{}}");
        c.load(0, "0803");
        c.load(1, "0f");
        c.load(2, "414243");
        x.server(0, 0, 0);
        x.client(0, 0, 0);
        x.client(2, 0, 1);
        x.invoke(0, 0, 0);
        x.invoke(0, 1, 0);
        x.invoke(0, 0, 3);
        x.deliver(0);
        x.deliver(0);
        x.deliver(0);
        x.deliver(1);
        x.deliver(1);
        x.tick(3);
        x.twice(0);
        keep();
        x.judge(0, 1, 1, 0, 1);
        x.differ(0, 3);
        c.ask(0, 3, "a.x");
        c.remove(0, "y ?");
        c.tape("A{x:9}");
        before = told();
    }

    /** Copies of messages 0 .. 3, which told() looks at. */
    private static void keep() {
        for (int m = 0; m < 4; m++) {
            x.copy(m, 6 + m);
        }
    }

    /** What the house tells; row 7 is used, and the tape comes back. */
    private static String told() {
        StringBuilder all = new StringBuilder();
        for (int what = 0; what < 6; what++) {
            all.append(" net ").append(x.net(what));
        }
        all.append(" place ").append(x.place()).append(" number ").append(x.number()).append(" where ").append(x.where());
        x.load(7);
        String tape = c.text(7);
        all.append(" tape ").append(tape);
        for (int row = 0; row < 7; row++) {
            all.append(" row ").append(c.hex(row));
        }
        for (int s = 0; s < 4; s++) {
            all.append(" types ").append(x.types(s, 0)).append(" mark ").append(x.mark(s, 0, 0) ^ x.mark(s, 0, 1) ^ x.mark(s, 1, 0));
        }
        for (int m = 0; m < 5; m++) {
            all.append(" message ").append(x.told(m, 0)).append(" ").append(x.same(m, 6 + m));
        }
        for (int k = 0; k < 4; k++) {
            all.append(" path ").append(x.path(k, 7)).append(x.size(7) < 9 ? c.text(7) : "");
        }
        for (int xid = 0; xid < 4; xid++) {
            for (int what = 0; what < 4; what++) {
                all.append(" outcome ").append(x.outcome(0, xid, what));
            }
        }
        for (int i = 0; i < 5; i++) {
            all.append(" letter ").append(x.letter(i, 0)).append(x.letter(i, 2)).append(x.letter(i, 3)).append(x.letter(i, 5));
        }
        all.append(" client ").append(x.outcome(2, 0, 0)).append(" ran ").append(x.ran(0)).append(x.ran(1)).append(" cells ").append(x.cell(0)).append(x.cell(1));
        c.tape(tape);
        return all.toString();
    }

    private static void refused(String what, int due, IntSupplier call) {
        Check.due(what, call.getAsInt(), due);
    }

    private static void end(String what) {
        Check.due("what is refused changes nothing: " + what, told(), before);
    }

    private static void tapeAndRows() {
        begin();
        for (int n : new int[] {-1, 7, 4000, MAX, MIN}) {
            refused("cut", BAD, () -> x.cut(n));
        }
        for (int row : new int[] {-1, 8, MAX, MIN}) {
            refused("load", BAD, () -> x.load(row));
            refused("unload", BAD, () -> x.unload(row));
            refused("size", BAD, () -> x.size(row));
            refused("octet", BAD, () -> x.octet(row, 0));
            refused("alter", BAD, () -> x.alter(row, 0, 1));
            refused("equal", BAD, () -> x.equal(row, 0));
            refused("equal", BAD, () -> x.equal(0, row));
        }
        for (int i : new int[] {-1, 2, MAX, MIN}) {
            refused("octet", BAD, () -> x.octet(0, i));
            refused("alter", BAD, () -> x.alter(0, i, 1));
        }
        for (int mask : new int[] {-1, 256, MAX, MIN}) {
            refused("alter", BAD, () -> x.alter(0, 0, mask));
        }
        refused("octet of an empty row", BAD, () -> x.octet(5, 0));
        refused("alter of an empty row", BAD, () -> x.alter(5, 0, 0));
        end("tape and rows");
        Check.due("the last byte", x.octet(0, 1), 3);
        Check.due("the greatest mask", x.alter(0, 1, 255), 252);
        Check.due("the least", x.alter(0, 1, 0), 252);
        Check.due("cut of none", x.cut(0), 6);
        Check.due("cut of all", x.cut(6), 0);
        refused("cut of an empty tape", BAD, () -> x.cut(1));
        Check.due("the last row", x.load(7), 0);
    }

    private static void tapeFull() {
        c = new Check();
        x = c.house;
        c.load(0, Check.times("41", 3));
        for (int i = 0; i < 200; i++) {
            Check.due("feed", x.feed(1, 2, 3, 4, i), 20 * i + 20);
        }
        refused("feed of a full tape", FULL, () -> x.feed(0, 0, 0, 0, 0));
        refused("unload to a full tape", FULL, () -> x.unload(0));
        Check.due("a row without bytes", x.unload(1), 4000);
        Check.due("BAD ahead of FULL", x.unload(8), BAD);
        Check.due("4000 bytes", x.net(4), 4000);
        Check.due("cut", x.cut(2), 3998);
        refused("3 more", FULL, () -> x.unload(0));
        refused("20 more", FULL, () -> x.feed(0, 0, 0, 0, 0));
        Check.due("the tape stays", x.cut(1), 3997);
        Check.due("3 more", x.unload(0), 4000);
        Check.due("load", x.load(2), 4000);
        Check.due("the last byte", x.octet(2, 3999), 65);
        Check.due("what was ahead of it", x.octet(2, 3996), 0);
        Check.due("the tape is empty", x.net(4), 0);
        Check.due("unload of 4000", x.unload(2), 4000);
        x.cut(19);
        refused("20 more", FULL, () -> x.feed(0, 0, 0, 0, 0));
        x.cut(1);
        Check.due("20 more", x.feed(0, 0, 0, 0, -1), 4000);
    }

    private static void schemas() {
        begin();
        for (int s : new int[] {-1, 4, MAX, MIN}) {
            refused("schema", BAD, () -> x.schema(s));
            refused("types", BAD, () -> x.types(s, 0));
            refused("type", BAD, () -> x.type(s, 0, 0));
            refused("field", BAD, () -> x.field(s, 0, 0, 0));
            refused("name", BAD, () -> x.name(s, 0, 0, 0, 0));
            refused("service", BAD, () -> x.service(s, 0, 0, 0));
        }
        for (int s : new int[] {0, 2}) {
            for (int bad : new int[] {-1, MAX, MIN, 9}) {
                refused("types", BAD, () -> x.types(s, bad));
                refused("type", BAD, () -> x.type(s, 0, bad));
                refused("field", BAD, () -> x.field(s, 1, 0, bad));
                refused("service", BAD, () -> x.service(s, 0, 0, bad));
                refused("name", BAD, () -> x.name(s, bad, 0, 0, 0));
            }
            for (int below : new int[] {-1, MIN}) {
                refused("type", BAD, () -> x.type(s, below, 0));
            }
            refused("the least what of types", BAD, () -> x.types(s, 2));
            refused("of type", BAD, () -> x.type(s, 0, 5));
            refused("of service", BAD, () -> x.service(s, 0, 0, 7));
            refused("of name", BAD, () -> x.name(s, 6, 0, 0, 0));
        }
        for (int k : new int[] {3, MAX}) {
            refused("type", BAD, () -> x.type(0, k, 0));
            refused("type of no schema", NO, () -> x.type(2, k, 4));
        }
        refused("types of no schema", NO, () -> x.types(3, 1));
        end("schemas");
        Check.due("the last type", x.type(0, 2, 4), 0);
        Check.due("the last what", x.types(0, 1), 2);
    }

    private static void fieldsAndNames() {
        begin();
        for (int bad : new int[] {-1, MIN}) {
            for (int s : new int[] {0, 2}) {
                refused("field of type", BAD, () -> x.field(s, bad, 0, 0));
                refused("field", BAD, () -> x.field(s, 1, bad, 0));
                for (int sort = 0; sort < 6; sort++) {
                    int of = sort;
                    refused("name of", BAD, () -> x.name(s, of, bad, 0, 0));
                    refused("byte of a name", BAD, () -> x.name(s, of, 1, 0, bad));
                    if (of != 0 && of != 3) {
                        refused("name of", BAD, () -> x.name(s, of, 1, bad, 0));
                    }
                }
            }
        }
        for (int what = 0; what < 9; what++) {
            int of = what;
            refused("field of no schema", NO, () -> x.field(3, MAX, MAX, of));
            refused("of no type", BAD, () -> x.field(0, 3, 0, of));
            refused("no field", BAD, () -> x.field(0, 1, 8, of));
            refused("no constant", BAD, () -> x.field(0, 0, 2, of));
            if (of > 0) {
                refused("of a constant", BAD, () -> x.field(0, 0, 0, of));
            }
        }
        int[][] none = {{0, 3, 0, 0}, {0, 0, 0, 1}, {1, 3, 0, 0}, {1, 0, 2, 0}, {1, 0, 0, 1}, {1, 1, 8, 0}, {2, 0, 0, 0}, {2, 1, 1, 0}, {2, 2, 0, 0}, {2, 1, 0, 1},
            {3, 2, 0, 0}, {3, 0, 0, 1}, {4, 0, 2, 0}, {4, 1, 0, 0}, {4, 0, 0, 1}, {5, 0, 2, 0}, {5, 1, 0, 0}, {5, 0, 0, 1}};
        for (int[] n : none) {
            refused("name " + n[0] + " " + n[1] + " " + n[2] + " " + n[3], BAD, () -> x.name(0, n[0], n[1], n[2], n[3]));
            refused("of no schema", NO, () -> x.name(2, n[0], n[1], n[2], n[3]));
        }
        end("fields and names");
        Check.due("j does not matter", x.name(0, 0, 1, MIN, 0) * 1000 + x.name(0, 3, 1, MAX, 0), 'A' * 1000 + 'T');
    }

    private static void services() {
        begin();
        for (int s : new int[] {0, 2}) {
            for (int bad : new int[] {-1, MIN}) {
                refused("service", BAD, () -> x.service(s, bad, 0, 0));
                for (int what = 2; what < 7; what++) {
                    int of = what;
                    refused("its call", BAD, () -> x.service(s, 0, bad, of));
                }
            }
        }
        for (int what = 0; what < 7; what++) {
            int of = what;
            refused("no service", BAD, () -> x.service(0, 2, 0, of));
            refused("of no schema", NO, () -> x.service(2, 2, 2, of));
            if (of > 1) {
                refused("no call", BAD, () -> x.service(0, 0, 2, of));
                refused("of a service without calls", BAD, () -> x.service(0, 1, 0, of));
            }
        }
        end("services");
        Check.due("j does not count", x.service(0, 1, MIN, 0) + x.service(0, 1, MAX, 1), 0);
    }

    private static void writtenOut() {
        begin();
        for (int bad : new int[] {-1, 4, 8, MAX, MIN}) {
            refused("describe", BAD, () -> x.describe(bad, 3));
            if (bad != 4) {
                refused("to no row", BAD, () -> x.describe(0, bad));
                refused("of no schema to no row", BAD, () -> x.describe(2, bad));
            }
        }
        refused("describe", NO, () -> x.describe(2, 0));
        refused("describe", NO, () -> x.describe(3, 2));
        end("describe");
    }

    private static void messages() {
        begin();
        for (int bad : new int[] {-1, 12, MAX, MIN}) {
            refused("read", BAD, () -> x.read(0, bad));
            refused("read", BAD, () -> x.read(2, bad));
            refused("read", BAD, () -> x.read(bad, 0));
            refused("print", BAD, () -> x.print(bad, 0));
            refused("told", BAD, () -> x.told(bad, 0));
            refused("copy", BAD, () -> x.copy(bad, 0));
            refused("copy", BAD, () -> x.copy(0, bad));
            refused("copy of none", BAD, () -> x.copy(5, bad));
            refused("drop", BAD, () -> x.drop(bad));
            refused("same", BAD, () -> x.same(bad, 0));
            refused("same", BAD, () -> x.same(5, bad));
        }
        for (int bad : new int[] {-1, 8, MAX, MIN}) {
            refused("print", BAD, () -> x.print(0, bad));
            refused("print of none", BAD, () -> x.print(5, bad));
        }
        for (int bad : new int[] {-1, 6, MAX, MIN}) {
            refused("told", BAD, () -> x.told(0, bad));
            refused("told of none", BAD, () -> x.told(5, bad));
        }
        refused("read of schema 4", BAD, () -> x.read(4, 0));
        refused("read", NO, () -> x.read(2, 0));
        refused("read", NO, () -> x.read(3, 11));
        refused("print", NO, () -> x.print(4, 0));
        refused("told", NO, () -> x.told(4, 5));
        refused("copy", NO, () -> x.copy(4, 0));
        refused("copy to itself", NO, () -> x.copy(4, 4));
        refused("drop", NO, () -> x.drop(4));
        refused("same", NO, () -> x.same(4, 0));
        refused("same", NO, () -> x.same(0, 4));
        refused("same", NO, () -> x.same(4, 4));
        end("messages");
        Check.due("the tape was kept", x.read(0, 11), 1);
        Check.due("copy to itself", x.copy(11, 11), 1);
        c.printed("it", 11, "A{x:9}");
        Check.due("the last", x.drop(11), 1);
        refused("once", NO, () -> x.drop(11));
    }

    private static void encodes() {
        begin();
        for (int bad : new int[] {-1, 12, MAX, MIN}) {
            refused("encode", BAD, () -> x.encode(bad, 0, 0));
        }
        for (int m : new int[] {0, 4}) {
            for (int bad : new int[] {-1, 3, MAX, MIN}) {
                refused("no format", BAD, () -> x.encode(m, bad, 0));
            }
            for (int bad : new int[] {-1, 8, MAX, MIN}) {
                refused("no row", BAD, () -> x.encode(m, 0, bad));
            }
        }
        for (int format = 0; format < 3; format++) {
            int of = format;
            refused("of none", NO, () -> x.encode(4, of, 0));
        }
        end("encode");
    }

    private static void encodesNot() {
        begin();
        x.load(6);
        c.put(3, "e = 3");
        keep();
        c.tape("A{x:9}");
        before = told();
        refused("not to be WRITTEN", NO, () -> x.encode(3, 1, 0));
        end("not WRITTEN");
    }

    private static void decodes() {
        begin();
        for (int bad : new int[] {-1, 4, MAX, MIN}) {
            refused("no schema", BAD, () -> x.decode(bad, 1, 0, 0, 0));
        }
        for (int bad : new int[] {-1, 3, MAX, MIN}) {
            refused("no record", BAD, () -> x.decode(0, bad, 0, 0, 0));
            refused("no format", BAD, () -> x.decode(0, 1, bad, 0, 0));
            refused("no format of no schema", BAD, () -> x.decode(2, 1, bad, 0, 0));
        }
        for (int bad : new int[] {-1, 8, MAX, MIN}) {
            refused("no row", BAD, () -> x.decode(0, 1, 0, bad, 0));
            refused("no row of no schema", BAD, () -> x.decode(2, 1, 0, bad, 0));
        }
        for (int bad : new int[] {-1, 12, MAX, MIN}) {
            refused("no message", BAD, () -> x.decode(0, 1, 0, 0, bad));
            refused("no message of no schema", BAD, () -> x.decode(2, 1, 0, 0, bad));
        }
        refused("an enum", BAD, () -> x.decode(0, 0, 0, 0, 0));
        refused("below 0 of no schema", BAD, () -> x.decode(2, -1, 0, 0, 0));
        refused("no schema there", NO, () -> x.decode(2, 0, 0, 0, 0));
        refused("no schema there", NO, () -> x.decode(3, MAX, 2, 7, 11));
        end("decode");
    }

    private static void paths() {
        begin();
        for (int bad : new int[] {-1, 12, MAX, MIN}) {
            refused("ask", BAD, () -> x.ask(bad, 0));
            refused("put", BAD, () -> x.put(bad));
            refused("remove", BAD, () -> x.remove(bad));
        }
        for (int bad : new int[] {-1, 8, MAX, MIN}) {
            refused("ask", BAD, () -> x.ask(0, bad));
            refused("ask of none", BAD, () -> x.ask(4, bad));
        }
        refused("ask", NO, () -> x.ask(4, 0));
        refused("put", NO, () -> x.put(4));
        refused("remove", NO, () -> x.remove(11));
        end("paths");
    }

    /** NOTHING, and what leads to nothing: the tape is empty then. */
    private static void pathsNothing() {
        begin();
        x.load(7);
        before = told();
        refused("put to NOTHING", NO, () -> c.put(0, "l[3] = 1"));
        refused("put to NOTHING", NO, () -> c.put(0, "q.l[3] = 1"));
        refused("remove of nothing", NO, () -> c.remove(0, "e"));
        refused("remove of nothing", NO, () -> c.remove(0, "l[2]"));
        refused("remove of nothing", NO, () -> c.remove(0, "q.x"));
        end("NOTHING");
    }

    private static void merges() {
        begin();
        for (int bad : new int[] {-1, 12, MAX, MIN}) {
            refused("merge", BAD, () -> x.merge(bad, 0));
            refused("merge", BAD, () -> x.merge(4, bad));
            refused("differ", BAD, () -> x.differ(bad, 4));
            refused("differ", BAD, () -> x.differ(0, bad));
        }
        int[][] no = {{0, 4}, {4, 0}, {4, 4}, {0, 1}, {1, 0}, {0, 2}, {2, 0}, {1, 2}};
        for (int[] n : no) {
            refused("merge", NO, () -> x.merge(n[0], n[1]));
            refused("differ", NO, () -> x.differ(n[0], n[1]));
        }
        for (int bad : new int[] {-1, 8, MAX, MIN}) {
            refused("path to no row", BAD, () -> x.path(0, bad));
        }
        int n = x.differ(0, 3);
        for (int bad : new int[] {-1, n, MAX, MIN}) {
            refused("path", BAD, () -> x.path(bad, 0));
        }
        end("merge, differ, path");
    }

    private static void judged() {
        begin();
        for (int bad : new int[] {-1, 4, MAX, MIN}) {
            refused("judge", BAD, () -> x.judge(bad, 1, 1, 0, 0));
            refused("judge", BAD, () -> x.judge(0, 1, bad, 0, 0));
        }
        for (int bad : new int[] {-1, 3, MAX, MIN}) {
            refused("judge", BAD, () -> x.judge(0, bad, 1, 0, 0));
            refused("judge", BAD, () -> x.judge(0, bad, 2, 0, 0));
            refused("judge", BAD, () -> x.judge(1, 0, 0, bad, 0));
            refused("judge", BAD, () -> x.judge(2, 0, 0, bad, 0));
            refused("judge", BAD, () -> x.judge(0, 1, 1, 0, bad));
            refused("judge", BAD, () -> x.judge(2, 0, 2, 0, bad));
        }
        refused("below 0", BAD, () -> x.judge(2, -1, 3, 0, 0));
        refused("below 0", BAD, () -> x.judge(2, 0, 3, MIN, 0));
        refused("an enum", BAD, () -> x.judge(0, 0, 2, 0, 0));
        refused("an enum", BAD, () -> x.judge(2, 0, 0, 0, 0));
        refused("no schema", NO, () -> x.judge(0, 1, 2, MAX, 2));
        refused("no schema", NO, () -> x.judge(2, MAX, 0, 2, 1));
        refused("no schemas", NO, () -> x.judge(2, MAX, 3, MAX, 0));
        end("judge");
    }

    private static void serverAndClients() {
        begin();
        for (int bad : new int[] {-1, 4, MAX, MIN}) {
            refused("server", BAD, () -> x.server(bad, 0, 0));
            refused("client", BAD, () -> x.client(0, bad, 0));
        }
        for (int bad : new int[] {-1, 2, MAX, MIN}) {
            refused("server", BAD, () -> x.server(0, bad, 0));
            refused("client", BAD, () -> x.client(0, 0, bad));
        }
        for (int bad : new int[] {-1, 3, MAX, MIN}) {
            refused("server", BAD, () -> x.server(0, 0, bad));
            refused("server of no schema", BAD, () -> x.server(2, 0, bad));
            refused("client", BAD, () -> x.client(bad, 0, 0));
            refused("client of no schema", BAD, () -> x.client(bad, 2, 0));
        }
        refused("below 0 of no schema", BAD, () -> x.server(2, -1, 0));
        refused("below 0 of no schema", BAD, () -> x.client(0, 2, -1));
        refused("a service that schema 1 has not", BAD, () -> x.server(1, 1, 0));
        refused("a service that schema 1 has not", BAD, () -> x.client(0, 1, 1));
        refused("server", NO, () -> x.server(2, MAX, 0));
        refused("client", NO, () -> x.client(0, 3, MAX));
        end("server and clients");
    }

    private static void calls() {
        begin();
        for (int bad : new int[] {-1, 3, MAX, MIN}) {
            refused("invoke", BAD, () -> x.invoke(bad, 0, 0));
            refused("outcome", BAD, () -> x.outcome(bad, 0, 0));
            refused("take", BAD, () -> x.take(bad, 0, 4));
            refused("outcome", BAD, () -> x.outcome(0, bad, 0));
            refused("take", BAD, () -> x.take(0, bad, 4));
        }
        for (int bad : new int[] {-1, 2, MAX, MIN}) {
            refused("no call", BAD, () -> x.invoke(0, bad, 0));
            refused("no call, no message", BAD, () -> x.invoke(0, bad, 4));
        }
        for (int bad : new int[] {-1, 12, MAX, MIN}) {
            refused("no message", BAD, () -> x.invoke(0, 0, bad));
            refused("no message, no client", BAD, () -> x.invoke(1, 0, bad));
            refused("take to no message", BAD, () -> x.take(0, 0, bad));
        }
        for (int bad : new int[] {-1, 4, MAX, MIN}) {
            refused("outcome", BAD, () -> x.outcome(0, 0, bad));
        }
        refused("a service without calls", BAD, () -> x.invoke(2, 0, 0));
        refused("no client", NO, () -> x.invoke(1, MAX, 0));
        refused("no message there", NO, () -> x.invoke(0, 1, 4));
        refused("another record", NO, () -> x.invoke(0, 1, 1));
        refused("another schema", NO, () -> x.invoke(0, 1, 2));
        refused("no client there", BAD, () -> x.outcome(1, 0, 0));
        refused("no client there", BAD, () -> x.take(1, 0, 4));
        refused("of one that FAILED", NO, () -> x.take(0, 1, 0));
        refused("of one that WAITS", NO, () -> x.take(0, 2, 0));
        end("calls");
        Check.due("of one that is ANSWERED", x.take(0, 0, 4), 1);
    }

    private static void letters() {
        begin();
        int n = x.net(0);
        for (int bad : new int[] {-1, n, n + 1, 60, MAX, MIN}) {
            refused("letter", BAD, () -> x.letter(bad, 0));
            refused("deliver", BAD, () -> x.deliver(bad));
            refused("lose", BAD, () -> x.lose(bad));
            refused("twice", BAD, () -> x.twice(bad));
        }
        for (int bad : new int[] {-1, 6 + x.letter(0, 5), MAX, MIN}) {
            refused("letter", BAD, () -> x.letter(0, bad));
        }
        for (int bad : new int[] {0, -1, 101, MAX, MIN}) {
            refused("tick", BAD, () -> x.tick(bad));
        }
        end("letters");
    }

    private static void twiceFull() {
        begin();
        for (int i = x.net(0); i < 60; i++) {
            x.twice(0);
        }
        before = told();
        refused("twice", FULL, () -> x.twice(0));
        refused("twice", FULL, () -> x.twice(59));
        refused("BAD ahead of it", BAD, () -> x.twice(60));
        end("twice");
    }

    private static void countsOfCalls() {
        begin();
        for (int bad : new int[] {-1, 2, MAX, MIN}) {
            refused("ran", BAD, () -> x.ran(bad));
        }
        for (int bad : new int[] {-1, 6, MAX, MIN}) {
            refused("net", BAD, () -> x.net(bad));
        }
        for (int none : new int[] {-1, 2, MAX, MIN}) {
            Check.due("cell", x.cell(none), 0);
        }
        end("ran, net, cell");
    }

    private static void invokeFull() {
        begin();
        for (int i = 0; i < 37; i++) {
            x.invoke(0, 1, 0);
        }
        before = told();
        refused("a 41st call", FULL, () -> x.invoke(0, 1, 0));
        refused("NO ahead of it", NO, () -> x.invoke(0, 1, 4));
        refused("NO ahead of it", NO, () -> x.invoke(0, 1, 1));
        refused("BAD ahead of both", BAD, () -> x.invoke(0, 2, 4));
        end("invoke");
    }

    /** A PRINTED message has at most 4000 bytes: R{s:""} and four of each of 998 bytes are 3999. */
    private static void printsFull() {
        for (int plain = 0; plain < 3; plain++) {
            c = new Check();
            x = c.house;
            c.schema(0, "record R { bytes s @ 1; }");
            c.load(2, "414243");
            int n = 998 + plain;
            c.load(0, "0a" + String.format("%02x%02x", n & 127 | 128, n >> 7) + Check.times("00", 998) + Check.times("41", plain));
            Check.due("bytes", x.decode(0, 0, 0, 0, 0), 1);
            Check.due("print", x.print(0, 2), plain < 2 ? 3999 + plain : FULL);
            Check.due("the row", x.size(2), plain < 2 ? 3999 + plain : 3);
            Check.due("BAD ahead of FULL", x.print(0, 8), BAD);
        }
        c.row("the row stays", 2, "ABC");
    }

    private static void mergesFull() {
        c = new Check();
        x = c.house;
        c.schema(0, "record R { many int l @ 1; one o { int a @ 2; R b @ 3; } }");
        c.read(0, 0, "R{l:[0" + Check.times(",0", 397) + "],a:5}");
        c.read(0, 1, "R{b:{}}");
        c.read(0, 2, "R{b:{a:1}}");
        c.read(0, 3, "R{l:[1],b:{a:1}}");
        x.copy(0, 4);
        refused("a field of a one more", FULL, () -> x.merge(0, 2));
        Check.due("m stays", x.same(0, 4), 1);
        refused("an item more", FULL, () -> x.merge(0, 3));
        Check.due("m stays", x.same(0, 4), 1);
        refused("BAD ahead of FULL", BAD, () -> x.merge(0, 12));
        refused("NO ahead of FULL", NO, () -> x.merge(0, 5));
        Check.due("one in place of the other", x.merge(0, 1), 400);
    }

    private static String beforeFaults() {
        begin();
        x.load(7);
        c.ask(0, 3, "x ?");
        before = told();
        return " place " + x.place() + " ";
    }

    /** A fault leaves all but the place, the number, and the tape, which is empty. */
    private static void endFaults(String what, String place) {
        String now = " place " + x.place() + " ";
        Check.due("what a fault leaves: " + what, told().replace(now, place), before);
    }

    private static void fault(String what, int answer) {
        Check.due(what + " has a fault", answer <= -11 && answer >= -20 ? 1 : 0, 1);
        Check.due("the tape is empty behind " + what, x.net(4), 0);
    }

    private static void faultsOfTexts() {
        String place = beforeFaults();
        for (String w : new String[] {"?", "", "A{x:true}", "A{x:1,x:1}", "A" + Check.times("{a:", 12) + "{", "X{}", "A{x:1}}"}) {
            fault("read " + w, c.read(0, 0, w));
            fault("read " + w, c.read(0, 4, w));
        }
        endFaults("read", place);
        place = beforeFaults();
        for (String w : new String[] {"?", "record", "record R { X x @ 1; }", "enum E { A = 1; A = 2; }", "record R { int x @ 0; }"}) {
            fault("schema " + w, c.schema(0, w));
            fault("schema " + w, c.schema(2, w));
        }
        endFaults("schema", place);
    }

    private static void faultsOfPaths() {
        String place = beforeFaults();
        for (String w : new String[] {"?", "", "z", "x.x", "l[", "l[\"\"]", "m[2147483648]", "x x"}) {
            fault("ask " + w, c.ask(0, 0, w));
            fault("remove " + w, c.remove(0, w));
            fault("put " + w, c.put(0, w + " = "));
        }
        endFaults("paths", place);
        place = beforeFaults();
        for (int format = 0; format < 3; format++) {
            fault("decode", x.decode(0, 1, format, 1, 0));
            fault("decode", x.decode(0, 1, format, 1, 4));
        }
        endFaults("decode", place);
    }

    private static void none(int m) {
        refused("told", NO, () -> x.told(m, 0));
        refused("print", NO, () -> x.print(m, 0));
        refused("copy", NO, () -> x.copy(m, 5));
        refused("drop", NO, () -> x.drop(m));
        refused("same", NO, () -> x.same(m, 3));
        refused("same", NO, () -> x.same(3, m));
        refused("encode", NO, () -> x.encode(m, 0, 0));
        refused("merge", NO, () -> x.merge(m, 3));
        refused("merge", NO, () -> x.merge(3, m));
        refused("merge", NO, () -> x.merge(m, m));
        refused("differ", NO, () -> x.differ(m, 3));
        refused("differ", NO, () -> x.differ(3, m));
        refused("ask", NO, () -> x.ask(m, 0));
        refused("put", NO, () -> x.put(m));
        refused("remove", NO, () -> x.remove(m));
        refused("invoke", NO, () -> x.invoke(0, 0, m));
    }

    /** A message that was there, and is not now, is none. */
    private static void gone() {
        begin();
        x.drop(0);
        before = told();
        none(0);
        end("a message that was dropped");
        // with its schema
        c = new Check();
        x = c.house;
        c.schema(0, SCHEMA);
        c.schema(1, SCHEMA);
        c.read(1, 0, "A{x:1}");
        c.read(0, 3, "A{x:1}");
        x.server(0, 0, 0);
        x.client(0, 0, 0);
        c.schema(1, SCHEMA);
        before = told();
        none(0);
        end("a message whose schema is another one now");
    }

    /** A new object has nothing: NO, or BAD where that is asked first. */
    private static void withoutAnything() {
        c = new Check();
        x = c.house;
        String empty = told();
        for (int s = 0; s < 4; s++) {
            int of = s;
            refused("types", NO, () -> x.types(of, 0));
            refused("type", NO, () -> x.type(of, 0, 0));
            refused("field", NO, () -> x.field(of, 0, 0, 0));
            refused("name", NO, () -> x.name(of, 0, 0, 0, 0));
            refused("service", NO, () -> x.service(of, 0, 0, 0));
            refused("describe", NO, () -> x.describe(of, 0));
            refused("read", NO, () -> x.read(of, 0));
            refused("decode", NO, () -> x.decode(of, 0, 0, 0, 0));
            refused("judge", NO, () -> x.judge(of, 0, of, 0, 0));
            refused("server", NO, () -> x.server(of, 0, 0));
            refused("client", NO, () -> x.client(0, of, 0));
            Check.due("mark", x.mark(of, 0, 0), 0);
        }
        for (int m = 0; m < 12; m++) {
            int of = m;
            refused("print", NO, () -> x.print(of, 0));
            refused("told", NO, () -> x.told(of, 0));
            refused("copy", NO, () -> x.copy(of, 0));
            refused("drop", NO, () -> x.drop(of));
            refused("same", NO, () -> x.same(of, of));
            refused("encode", NO, () -> x.encode(of, 0, 0));
            refused("ask", NO, () -> x.ask(of, 0));
            refused("put", NO, () -> x.put(of));
            refused("remove", NO, () -> x.remove(of));
            refused("merge", NO, () -> x.merge(of, of));
            refused("differ", NO, () -> x.differ(of, of));
        }
        refused("place", NO, () -> x.place());
        refused("path", BAD, () -> x.path(0, 0));
        refused("invoke", NO, () -> x.invoke(0, 0, 0));
        refused("tick", NO, () -> x.tick(1));
        refused("crash", NO, () -> x.crash());
        refused("ran", NO, () -> x.ran(0));
        Check.due("nothing came of it", told(), empty);
    }
}
