/** Promise 4: alter, equal, and what schema() answers. */
public final class Promise04AlterEqual {
    public static void main(String[] args) {
        rows();
        schemas();
        tokens();
        Check.end();
    }

    private static void rows() {
        Check c = new Check();
        WireHouse x = c.house;
        c.load(0, "0f f0");
        c.load(1, "0f f0");
        c.load(2, "0f f0 00");
        Check.due("equal", x.equal(0, 1), 1);
        Check.due("equal to itself", x.equal(0, 0), 1);
        Check.due("one byte more", x.equal(0, 2), 0);
        Check.due("empty ones", x.equal(3, 4), 1);
        Check.due("equal of no row", x.equal(0, 8), Check.BAD);
        Check.due("equal of no row", x.equal(-1, 0), Check.BAD);
        Check.due("alter", x.alter(0, 1, 255), 0x0f);
        c.bytes("altered", 0, "0f0f");
        Check.due("not equal then", x.equal(0, 1), 0);
        Check.due("alter by none", x.alter(0, 0, 0), 0x0f);
        Check.due("mask above 255", x.alter(0, 0, 256), Check.BAD);
        Check.due("mask below 0", x.alter(0, 0, -1), Check.BAD);
        Check.due("no such byte", x.alter(0, 2, 1), Check.BAD);
        Check.due("byte below 0", x.alter(0, -1, 1), Check.BAD);
        Check.due("no such row", x.alter(8, 0, 1), Check.BAD);
        c.bytes("nothing changed", 0, "0f0f");
    }

    private static void schemas() {
        Check c = new Check();
        WireHouse x = c.house;
        Check.due("a schema without items", c.schema(0, " # nothing"), 0);
        Check.due("types", x.types(0, 0), 0);
        Check.due("a schema of two types", c.schema(0, "enum E { A = 1; } record R { }"), 2);
        c.tape("record X { }");
        Check.due("no such schema", x.schema(4), Check.BAD);
        Check.due("below 0", x.schema(-1), Check.BAD);
        Check.due("the tape stays", x.net(4), 12);
        Check.due("it is read by the next", x.schema(3), 1);
        Check.due("the tape is empty then", x.net(4), 0);

        c.read(0, 5, "R {}");
        c.fault("a fault", c.schema(0, "record R { int x @ 0; }"), 6, 19);
        Check.due("the tape is empty with a fault", x.net(4), 0);
        Check.due("the schema stays", x.types(0, 0), 2);
        Check.due("its messages, too", x.told(5, 1), 1);
        c.read(3, 6, "X {}");
        Check.due("another schema", c.schema(0, "record R { }"), 1);
        Check.due("its messages are gone", x.told(5, 1), Check.NO);
        Check.due("those of others are not", x.told(6, 1), 0);
    }

    private static void tokens() {
        Check c = new Check();
        Check.due("without blanks", c.schema(0, "enum E{A=-1;B=007;}record R{E e@1=B;many int x@2;}"), 2);
        Check.due("007", c.house.field(0, 0, 1, 0), 7);
        Check.due("remarks", c.schema(0, "record#a\nR#record\n{\t}\r#end"), 1);
        c.fault("no token", c.schema(0, "record R ? { }"), 1, 9);
        c.fault("a byte above 127", c.schema(0, "record \u00e9 { }"), 1, 7);
        Check.due("a NAME of 16", c.schema(0, "record abcdefghij_23456 { }"), 1);
        c.fault("a NAME of 17", c.schema(0, "record abcdefghij_234567 { }"), 1, 7);
        c.fault("a WORD is no NAME", c.schema(0, "record keep { }"), 2, 7);
        c.fault("a NUMBER of 20 digits", c.schema(0, "record R { int x @ 00000000000000000001; }"), 1, 19);
        Check.due("a NUMBER of 19", c.schema(0, "record R { int x @ 0000000000000000001; }"), 1);
        c.fault("a NUMBER too high", c.schema(0, "record R { long x @ 1 = 9223372036854775808; }"), 1, 24);
        Check.due("the highest", c.schema(0, "record R { long x @ 1 = 9223372036854775807; }"), 1);
        String sixty = Check.times("\\x41", 58) + "\\\"\\\\";
        Check.due("a STRING of 60 ITEMS", c.schema(0, "record R { text x @ 1 = \"" + sixty + "\"; }"), 1);
        c.fault("of 61", c.schema(0, "record R { text x @ 1 = \"" + sixty + "a\"; }"), 1, 24);
        c.fault("a STRING without an end", c.schema(0, "record R { text x @ 1 = \"ab; }"), 1, 24);
        c.fault("a wrong ITEM", c.schema(0, "record R { text x @ 1 = \"\\xFF\"; }"), 1, 24);
        c.fault("a byte 31 in a STRING", c.schema(0, "record R { text x @ 1 = \"\u001f\"; }"), 1, 24);
        c.fault("a byte 127 in a STRING", c.schema(0, "record R { text x @ 1 = \"\u007f\"; }"), 1, 24);
        Check.due("bytes 32 and 126", c.schema(0, "record R { text x @ 1 = \" ~\"; }"), 1);
        c.fault("no digit", c.schema(0, "record R { text x @ 1 = \"\\x4g\"; }"), 1, 24);
        c.fault("no digit", c.schema(0, "record R { text x @ 1 = \"\\xg4\"; }"), 1, 24);
        c.fault("half of \\x41", c.schema(0, "record R { text x @ 1 = \"\\x4"), 1, 24);
        c.fault("a \\ with another byte", c.schema(0, "record R { text x @ 1 = \"\\n\"; }"), 1, 24);
        Check.due("all letters", c.schema(0, "record AZaz_09 { } record ZAza { } record _ { }"), 3);
        c.fault("a byte 9 in a STRING", c.schema(0, "record R { text x @ 1 = \"\t\"; }"), 1, 24);
        c.fault("a # in a STRING is none of a remark", c.schema(0, "record R { text x @ 1 = \"#\"; } x"), 2, 31);
        c.fault("the end", c.schema(0, "record R {"), 2, 10);
        c.fault("the first that reading meets", c.schema(0, "record record \"ab"), 2, 7);
    }
}
