/** Promise 2: feed, cut, load. */
public final class Promise02Tape {
    public static void main(String[] args) {
        Check c = new Check();
        WireHouse x = c.house;
        Check.due("feed", x.feed(0x01020304, -1, 0, 0x7fffffff, 0x80000000), 20);
        Check.due("tape", x.net(4), 20);
        Check.due("cut of more than there is", x.cut(21), Check.BAD);
        Check.due("cut of less than none", x.cut(-1), Check.BAD);
        Check.due("cut of none", x.cut(0), 20);
        Check.due("load", x.load(3), 20);
        c.bytes("row", 3, "01020304ffffffff000000007fffffff80000000");
        Check.due("tape is empty then", x.net(4), 0);

        x.feed(1, 2, 3, 4, 5);
        Check.due("cut", x.cut(17), 3);
        Check.due("load of no row", x.load(8), Check.BAD);
        Check.due("load of a row below 0", x.load(-1), Check.BAD);
        Check.due("the tape stays", x.net(4), 3);
        Check.due("load in place of a longer row", x.load(3), 3);
        c.bytes("row", 3, "000000");
        Check.due("load of an empty tape", x.load(3), 0);
        Check.due("row", x.size(3), 0);

        for (int i = 1; i <= 200; i++) {
            Check.due("feed", x.feed(i, i, i, i, i), 20 * i);
        }
        Check.due("feed beyond 4000", x.feed(1, 1, 1, 1, 1), Check.FULL);
        Check.due("the tape stays", x.cut(1), 3999);
        Check.due("feed beyond 4000 by one byte less", x.feed(1, 1, 1, 1, 1), Check.FULL);
        Check.due("cut", x.cut(19), 3980);
        Check.due("feed up to 4000", x.feed(1, 1, 1, 1, 1), 4000);
        Check.due("load of 4000", x.load(7), 4000);
        Check.end();
    }
}
