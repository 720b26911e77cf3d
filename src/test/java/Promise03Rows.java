/** Promise 3: unload, size, octet. */
public final class Promise03Rows {
    public static void main(String[] args) {
        Check c = new Check();
        WireHouse x = c.house;
        c.load(0, "00 7f 80 ff");
        Check.due("size", x.size(0), 4);
        Check.due("size of no row", x.size(8), Check.BAD);
        Check.due("size below 0", x.size(-1), Check.BAD);
        Check.due("octet 0", x.octet(0, 0), 0);
        Check.due("octet 2", x.octet(0, 2), 128);
        Check.due("octet 3", x.octet(0, 3), 255);
        Check.due("octet behind the end", x.octet(0, 4), Check.BAD);
        Check.due("octet below 0", x.octet(0, -1), Check.BAD);
        Check.due("octet of an empty row", x.octet(1, 0), Check.BAD);
        Check.due("octet of no row", x.octet(8, 0), Check.BAD);

        c.tape("ab");
        Check.due("unload behind the tape", x.unload(0), 6);
        c.bytes("the row keeps its bytes", 0, "007f80ff");
        Check.due("unload once more", x.unload(0), 10);
        x.load(1);
        c.bytes("both", 1, "6162007f80ff007f80ff");
        Check.due("unload of no row", x.unload(-1), Check.BAD);
        Check.due("unload of an empty row", x.unload(2), 0);

        c.tape(Check.times("x", 3997));
        Check.due("unload beyond 4000", x.unload(0), Check.FULL);
        x.cut(1);
        Check.due("unload up to 4000", x.unload(0), 4000);
        Check.end();
    }
}
