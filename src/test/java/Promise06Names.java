/** Promise 6: field, name, service. */
public final class Promise06Names {
    private static final Check C = new Check();
    private static final WireHouse X = C.house;

    public static void main(String[] args) {
        Check.due("schema", C.schema(0, "enum Col { RED = -3; B = 7; } record Rec { maybe int num @ 5; one pick { Col col @ 2; Rec rec @ 9; } map<text, Rec> all @ 20; many bytes raw @ 1; map<ulong, Col> m @ 21; } service Serv { cell sum; call go (Rec) Rec @ 17 { sum = in.num + 1; out.num = sum; } call no (Rec) Rec @ 0 { } }"), 2);
        fields();
        names();
        services();
        Check.end();
    }

    private static void fields() {
        // by rising numbers: raw pointer 0, pick TAG 0, its place 64, its pointer 1, num FLAG 16, at 32
        int[][] due = {
            {5, 1, 1, -2, -2, -2, 32, -2, 16},
            {2, 0, 11, 0, -2, 0, 64, -2, 0},
            {9, 0, 12, 1, -2, 0, -2, 1, 0},
            {20, 3, 12, 1, 9, -2, -2, 2, -2},
            {1, 2, 10, -2, -2, -2, -2, 0, -2},
            {21, 3, 11, 0, 6, -2, -2, 3, -2}};
        for (int j = 0; j < due.length; j++) {
            for (int what = 0; what < 9; what++) {
                Check.due("field(0, 1, " + j + ", " + what + ")", X.field(0, 1, j, what), due[j][what]);
            }
        }
        Check.due("a constant", X.field(0, 0, 0, 0), -3);
        Check.due("a constant's kind", X.field(0, 0, 0, 2), Check.BAD);
        Check.due("no constant", X.field(0, 0, 2, 0), Check.BAD);
        Check.due("no field", X.field(0, 1, 6, 0), Check.BAD);
        Check.due("no type", X.field(0, 2, 0, 0), Check.BAD);
        Check.due("another what", X.field(0, 1, 0, 9), Check.BAD);
        Check.due("below 0 of no schema", X.field(1, 0, -1, 0), Check.BAD);
        Check.due("no schema there", X.field(1, 99, 99, 8), Check.NO);
        Check.due("no such schema", X.field(4, 0, 0, 0), Check.BAD);
    }

    private static void name(int sort, int k, int j, String due) {
        for (int i = 0; i < due.length(); i++) {
            Check.due("name(0, " + sort + ", " + k + ", " + j + ", " + i + ")", X.name(0, sort, k, j, i), due.charAt(i));
        }
        Check.due("the byte behind " + due, X.name(0, sort, k, j, due.length()), Check.BAD);
    }

    private static void names() {
        name(0, 0, -5, "Col");
        name(0, 1, 99, "Rec");
        name(1, 0, 1, "B");
        name(1, 1, 2, "rec");
        name(2, 1, 0, "pick");
        name(3, 0, -1, "Serv");
        name(4, 0, 1, "no");
        name(5, 0, 0, "sum");
        Check.due("another sort", X.name(1, 6, 0, 0, 0), Check.BAD);
        Check.due("an enum has no ones", X.name(0, 2, 0, 0, 0), Check.BAD);
        Check.due("no such field", X.name(0, 1, 1, 6, 0), Check.BAD);
        Check.due("below 0 ahead of NO", X.name(1, 1, 0, -1, 0), Check.BAD);
        Check.due("j does not matter of 3", X.name(1, 3, 0, -1, 0), Check.NO);
        Check.due("NO ahead of what is beyond", X.name(1, 1, 99, 99, 99), Check.NO);
        Check.due("beyond", X.name(0, 4, 0, 2, 0), Check.BAD);
        Check.due("a byte below 0", X.name(0, 0, 0, 0, -1), Check.BAD);
    }

    private static void services() {
        int[] first = {2, 1, 17, 1, 1, 2, 4};
        int[] second = {2, 1, 0, 1, 1, 0, 0};
        for (int what = 0; what < 7; what++) {
            Check.due("service(0, 0, 0, " + what + ")", X.service(0, 0, 0, what), first[what]);
            Check.due("service(0, 0, 1, " + what + ")", X.service(0, 0, 1, what), second[what]);
        }
        Check.due("j counts for 2 and more alone", X.service(0, 0, -1, 1), 1);
        Check.due("no such call", X.service(0, 0, 2, 2), Check.BAD);
        Check.due("below 0", X.service(1, 0, -1, 2), Check.BAD);
        Check.due("no such service", X.service(0, 1, 0, 0), Check.BAD);
        Check.due("another what", X.service(0, 0, 0, 7), Check.BAD);
        Check.due("no schema there", X.service(1, 3, 3, 3), Check.NO);
    }
}
