/** Promise 1: what a new object has, which is nothing. */
public final class Promise01NewObject {
    public static void main(String[] args) {
        WireHouse x = new WireHouse();
        Check.due("BAD", WireHouse.BAD, -1);
        Check.due("NO", WireHouse.NO, -2);
        Check.due("FULL", WireHouse.FULL, -3);
        for (int row = 0; row < 8; row++) {
            Check.due("size of a row", x.size(row), 0);
        }
        for (int s = 0; s < 4; s++) {
            Check.due("types of no schema", x.types(s, 0), Check.NO);
            Check.due("mark of no schema", x.mark(s, 0, 0), 0);
        }
        for (int m = 0; m < 12; m++) {
            Check.due("told of no message", x.told(m, 0), Check.NO);
        }
        for (int what = 0; what < 6; what++) {
            Check.due("net(" + what + ")", x.net(what), 0);
        }
        Check.due("place", x.place(), Check.NO);
        Check.due("number", x.number(), 0);
        Check.due("where", x.where(), 0);
        Check.due("path", x.path(0, 0), Check.BAD);
        Check.due("letter", x.letter(0, 0), Check.BAD);
        Check.due("tick without a server", x.tick(1), Check.NO);
        Check.due("cell without a server", x.cell(0), 0);
        Check.due("ran without a server", x.ran(0), Check.NO);
        Check.due("crash without a server", x.crash(), Check.NO);
        Check.due("outcome without a client", x.outcome(0, 0, 0), Check.BAD);
        Check.due("take without a client", x.take(0, 0, 0), Check.BAD);
        Check.due("cut of an empty tape", x.cut(1), Check.BAD);
        Check.end();
    }
}
