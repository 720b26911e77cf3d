/** Promise 15: lose, twice, tick. */
public final class Promise15Ticks {
    public static void main(String[] args) {
        Check c = new Check();
        WireHouse x = c.house;
        c.schema(0, "record A { bytes y @ 1; } record B { } service S { call k (A) B @ 1 { } }");
        Check.due("tick without a server", x.tick(1), Check.NO);
        Check.due("tick of too many", x.tick(101), Check.BAD);
        x.server(0, 0, 0);
        Check.due("tick of none", x.tick(0), Check.BAD);
        Check.due("tick of less", x.tick(-1), Check.BAD);
        Check.due("tick", x.tick(100), 100);
        x.server(0, 0, 0);
        x.client(0, 0, 0);
        x.client(1, 0, 0);
        c.read(0, 0, "A {}");
        c.read(0, 1, "A {y: \"" + Check.times("a", 40) + "\"}");

        x.invoke(1, 0, 0);
        Check.due("time", x.tick(3), 3);
        x.invoke(0, 0, 1);
        Check.due("lose of none", x.lose(3), Check.BAD);
        Check.due("lose below 0", x.lose(-1), Check.BAD);
        Check.due("twice of none", x.twice(3), Check.BAD);
        Check.due("lose", x.lose(0), 2);
        Check.due("the others stay in order", x.letter(0, 3), 0);
        Check.due("twice", x.twice(1), 3);
        Check.due("behind all others", x.letter(2, 3), 1);
        Check.due("as it is", x.letter(2, 5), x.letter(1, 5));
        x.lose(0);
        x.lose(0);
        Check.due("lose", x.lose(0), 0);
        Check.due("these were not lost for want of room", x.net(5), 0);

        Check.due("7 ticks behind", x.tick(4), 7);
        Check.due("nothing is sent", x.net(0), 0);
        Check.due("8 behind the first of them", x.tick(1), 8);
        Check.due("it is sent again", x.letter(0, 1), 1);
        Check.due("how often", x.outcome(1, 0, 2), 2);
        Check.due("8 behind the other", x.tick(3), 11);
        Check.due("all its LETTERS", x.net(0), 3);
        Check.due("of the other", x.letter(1, 1), 0);
        Check.due("how often", x.outcome(0, 0, 2), 2);
        Check.due("once more, then both at 24 and 27", x.tick(16), 27);
        Check.due("four times", x.outcome(0, 0, 2) * 10 + x.outcome(1, 0, 2), 44);
        Check.due("LETTERS", x.net(0), 9);
        Check.due("31", x.tick(4), 31);
        Check.due("it WAITS", x.outcome(1, 0, 0), 0);
        x.tick(1);
        Check.due("GIVEN UP", x.outcome(1, 0, 0), 3);
        Check.due("the other WAITS", x.outcome(0, 0, 0), 0);
        x.tick(3);
        Check.due("GIVEN UP", x.outcome(0, 0, 0), 3);
        Check.due("sent four times", x.outcome(0, 0, 2), 4);
        Check.due("code", x.outcome(0, 0, 1), 0);
        Check.due("no LETTERS more", x.net(0), 9);
        Check.due("the server answers", x.deliver(0), 9);
        Check.due("the answer of what was GIVEN UP", x.deliver(8), 8);
        Check.due("it is GIVEN UP", x.outcome(1, 0, 0), 3);

        // of one tick: clients in order, calls by XIDS
        x.server(0, 0, 0);
        x.client(0, 0, 0);
        x.client(1, 0, 0);
        x.invoke(1, 0, 0);
        x.invoke(0, 0, 0);
        x.invoke(1, 0, 0);
        x.invoke(0, 0, 0);
        for (int i = 0; i < 4; i++) {
            x.lose(0);
        }
        x.tick(8);
        int[] due = {0, 0, 0, 1, 1, 0, 1, 1};
        for (int i = 0; i < 4; i++) {
            Check.due("client", x.letter(i, 1), due[2 * i]);
            Check.due("XID", x.letter(i, 2), due[2 * i + 1]);
        }
        for (int i = 4; i < 60; i++) {
            Check.due("twice", x.twice(0), i + 1);
        }
        Check.due("twice beyond 60", x.twice(0), Check.FULL);
        Check.due("none was lost", x.net(5), 0);
        x.tick(8);
        Check.due("four were lost", x.net(5), 4);
        Check.end();
    }
}
