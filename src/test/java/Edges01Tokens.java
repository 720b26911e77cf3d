/** Section 1 of the document: how much THE TAPE and ROWS have, and which tokens there are. */
public final class Edges01Tokens {
    private static final String WORDS = "enum record service one keep many maybe map call cell in out fail bool int uint zint fix long ulong zlong fixlong text bytes true false";

    public static void main(String[] args) {
        tapeIsFull();
        rowsAreFull();
        emptyRows();
        textsEmptyTheTape();
        names();
        words();
        numbers();
        strings();
        blanks();
        signs();
        asLongAsCanBe();
        signedInts();
        Check.end();
    }

    private static void tapeIsFull() {
        Check c = new Check();
        for (int i = 0; i < 200; i++) {
            c.house.feed(0x01020304, i, -1, Integer.MIN_VALUE, Integer.MAX_VALUE);
        }
        Check.due("THE TAPE has up to 4000 bytes", c.house.net(4), 4000);
        Check.due("a full tape takes none", c.house.feed(0, 0, 0, 0, 0), Check.FULL);
        Check.due("not more than it has can be cut", c.house.cut(4001), Check.BAD);
        Check.due("nor the most", c.house.cut(Integer.MAX_VALUE), Check.BAD);
        Check.due("nor the least", c.house.cut(Integer.MIN_VALUE), Check.BAD);
        Check.due("none may be cut", c.house.cut(0), 4000);
        Check.due("a row becomes all of it", c.house.load(0), 4000);
        String last = "01020304" + "000000c7" + "ffffffff" + "80000000" + "7fffffff";
        Check.due("the refused feed left it", c.hex(0, 3980, 4000), last);
        c.house.unload(0);
        Check.due("all may be cut", c.house.cut(4000), 0);
        Check.due("then not one more", c.house.cut(1), Check.BAD);
        Check.due("of an empty tape none may be cut", c.house.cut(0), 0);
    }

    private static void rowsAreFull() {
        Check c = new Check();
        c.tape(Check.times("abcd", 1000));
        Check.due("ROWS have up to 4000 bytes", c.house.load(7), 4000);
        Check.due("row 7 is the last", c.house.size(7), 4000);
        Check.due("row 8 is none", c.house.size(8), Check.BAD);
        Check.due("the last byte", c.house.octet(7, 3999), 'd');
        Check.due("none behind it", c.house.octet(7, 4000), Check.BAD);
        Check.due("the last byte changes", c.house.alter(7, 3999, 1), 'e');
        Check.due("none behind it does", c.house.alter(7, 4000, 1), Check.BAD);
        c.tape("x");
        Check.due("4001 bytes have no room", c.house.unload(7), Check.FULL);
        Check.due("an empty row has", c.house.unload(0), 1);
        c.house.cut(1);
        Check.due("4000 bytes have", c.house.unload(7), 4000);
        Check.due("no bytes have room behind 4000", c.house.unload(0), 4000);
        Check.due("the tape becomes row 0", c.house.load(0), 4000);
        Check.due("with the same bytes", c.house.equal(0, 7), 1);
        c.house.alter(0, 0, 128);
        Check.due("the first byte counts", c.house.equal(0, 7), 0);
        c.house.alter(0, 0, 128);
        c.house.alter(0, 3999, 128);
        Check.due("the last byte counts", c.house.equal(0, 7), 0);
    }

    private static void emptyRows() {
        Check c = new Check();
        Check.due("at first none", c.house.size(0), 0);
        Check.due("an empty row has no byte 0", c.house.octet(0, 0), Check.BAD);
        Check.due("none to change", c.house.alter(0, 0, 0), Check.BAD);
        Check.due("two empty rows have the same bytes", c.house.equal(0, 7), 1);
        c.load(0, "00");
        Check.due("a byte 0 is one more than none", c.house.equal(0, 7), 0);
        Check.due("and the other way", c.house.equal(7, 0), 0);
        Check.due("mask 0 changes nothing", c.house.alter(0, 0, 0), 0);
        Check.due("mask 255 is the greatest", c.house.alter(0, 0, 255), 255);
        Check.due("a byte is told without sign", c.house.octet(0, 0), 255);
        Check.due("mask 256 is too great", c.house.alter(0, 0, 256), Check.BAD);
        Check.due("mask -1 too small", c.house.alter(0, 0, -1), Check.BAD);
        Check.due("both left the byte", c.house.octet(0, 0), 255);
        Check.due("a row becomes empty again", c.house.load(0), 0);
        Check.due("without bytes", c.house.size(0), 0);
    }

    /** THE TAPE is empty behind each text that was read, with a fault too, and behind NO of what was read. */
    private static void textsEmptyTheTape() {
        Check c = new Check();
        c.schema(0, "record R { many int l @ 1; }");
        Check.due("schema()", c.house.net(4), 0);
        c.schema(0, "record R { }?");
        Check.due("schema() with a fault", c.house.net(4), 0);
        c.read(0, 0, "R { }");
        Check.due("read()", c.house.net(4), 0);
        c.read(0, 0, "R { }?");
        Check.due("read() with a fault", c.house.net(4), 0);
        c.ask(0, 0, "l");
        Check.due("ask()", c.house.net(4), 0);
        c.ask(0, 0, "l?");
        Check.due("ask() with a fault", c.house.net(4), 0);
        Check.due("put() of NOTHING", c.put(0, "l[1] = 1"), Check.NO);
        Check.due("it empties", c.house.net(4), 0);
        c.put(0, "l = [1]");
        Check.due("put()", c.house.net(4), 0);
        c.put(0, "l = ?");
        Check.due("put() with a fault", c.house.net(4), 0);
        Check.due("remove() of nothing", c.remove(0, "l[1]"), Check.NO);
        Check.due("it empties, too", c.house.net(4), 0);
        c.remove(0, "l?");
        Check.due("remove() with a fault", c.house.net(4), 0);
        c.remove(0, "l");
        Check.due("remove()", c.house.net(4), 0);
        Check.due("an empty tape is a text, too", c.house.schema(1), 0);
        Check.due("a schema without items has no types", c.house.types(1, 0), 0);
        Check.due("and no services", c.house.types(1, 1), 0);
        c.fault("of no message", c.house.read(0, 0), 2, 0);
        c.fault("of no path", c.house.ask(0, 0), 2, 0);
        c.fault("PUT nowhere", c.house.put(0), 2, 0);
        c.fault("taken from nowhere", c.house.remove(0), 2, 0);
    }

    private static void names() {
        Check c = new Check();
        Check.due("a NAME of one letter", c.schema(0, "record a {} record Z {} record _ {}"), 3);
        Check.due("16 are the most", c.schema(0, "record ABCDEFGHIJKLMNOP {} record _123456789012345 {}"), 2);
        c.fault("17 are too many", c.schema(0, "record ABCDEFGHIJKLMNOPQ {}"), 1, 7);
        c.fault("17 with digits", c.schema(0, "record _1234567890123456 {}"), 1, 7);
        c.fault("a digit does not begin a NAME", c.schema(0, "record 1a {}"), 2, 7);
        String[] none = {"@", "[", "`", "}", "/", ":", "$", "-"};
        for (String s : none) {
            int fault = s.equals("$") || s.equals("`") ? 1 : 2;
            c.fault("no part of a NAME: " + s, c.schema(0, "record a" + s + "b {}"), fault, 8);
        }
        Check.due("NAMES of other letters' size are others", c.schema(0, "record a {} record A {}"), 2);
    }

    private static void words() {
        Check c = new Check();
        int i = 0;
        for (String word : WORDS.split(" ")) {
            c.fault("a WORD is no NAME: " + word, c.schema(0, "record " + word + " {}"), 2, 7);
            Check.due("with another letter behind it is", c.schema(0, "record " + word + "_ {}"), 1);
            String big = word.substring(0, 1).toUpperCase() + word.substring(1);
            Check.due("with a great letter it is", c.schema(0, "record " + big + " {}"), 1);
            i++;
            if (i % 9 == 0) {
                c = new Check();
            }
        }
        Check.due("WORDS", i, 26);
        Check d = new Check();
        d.fault("a part of a WORD is a NAME", d.schema(0, "recor R {}"), 2, 0);
    }

    private static void number(Check c, String digits, int due) {
        String text = "record R { long a @ 1 = " + digits + "; }";
        if (due == 0) {
            Check.due(digits, c.schema(0, text), 1);
        } else {
            c.fault(digits, c.schema(0, text), due, 24);
        }
    }

    private static void numbers() {
        Check c = new Check();
        number(c, "0", 0);
        number(c, "0000000000000000000", 0);
        number(c, "00000000000000000000", 1);
        number(c, "1000000000000000000", 0);
        number(c, "9223372036854775807", 0);
        number(c, "9223372036854775808", 1);
        number(c, "9300000000000000000", 1);
        number(c, "9999999999999999999", 1);
        number(c, "18446744073709551616", 1);
        number(c, "10000000000000000000", 1);
        c.fault("a letter ends a NUMBER", c.schema(0, "record R { long a @ 1 = 1x; }"), 2, 25);
    }

    private static void strings() {
        Check c = new Check();
        c.schema(0, "record R { bytes b @ 1; }");
        String most = Check.times("\\x00", 20) + Check.times("\\\"", 20) + Check.times("\\\\", 19) + "~";
        Check.due("60 ITEMS", c.read(0, 0, "R{b:\"" + most + "\"}"), 1);
        Check.due("are 60 bytes", c.house.told(0, 3), 60);
        c.fault("61 ITEMS", c.read(0, 0, "R{b:\"" + most + "\\\\\"}"), 1, 4);
        Check.due("no ITEMS", c.read(0, 0, "R{b:\"\"}"), 0);
        for (int b = 0; b < 256; b++) {
            boolean may = b >= 32 && b <= 126 && b != '"' && b != '\\';
            if (b < 40 || b > 120 && b < 132 || b == 92 || b > 250) {
                int answer = c.read(0, 0, "R{b:\"" + (char) b + "\"}");
                if (may) {
                    Check.due("an ITEM " + b, answer, 1);
                } else {
                    // of " the STRING ends, and the next one has no end
                    c.fault("no ITEM " + b, answer, 1, b == '"' ? 6 : 4);
                }
            }
        }
        c = new Check();
        c.schema(0, "record R { bytes b @ 1; }");
        String[] wrong = {"\\x0", "\\x0G", "\\xA0", "\\X00", "\\x", "\\", "\\n", "\\0", "\\'", "\\x 0", "\\x0/", "\\x0:", "\\x0`", "\\xg0"};
        for (String s : wrong) {
            c.fault(s, c.read(0, 0, "R{b:\"" + s + "\"}"), 1, 4);
            c.fault(s + " at the end", c.read(0, 0, "R{b:\"" + s), 1, 4);
        }
        Check.due("all digits", c.read(0, 0, "R{b:\"\\x01\\x23\\x45\\x67\\x89\\xab\\xcd\\xef\"}"), 1);
        c.house.encode(0, 0, 0);
        c.bytes("are these bytes", 0, "0a080123456789abcdef");
        c.fault("a 10 in a STRING", c.read(0, 0, "R{b:\"\n\"}"), 1, 4);
        c.fault("the first byte of what is wrong within", c.read(0, 0, "R{b:  \"ab\\q\"}"), 1, 6);
    }

    private static void blanks() {
        Check c = new Check();
        for (int b : new int[] {9, 10, 13, 32}) {
            Check.due("a BLANK " + b, c.schema(0, "record" + (char) b + "R{}" + (char) b), 1);
        }
        for (int b : new int[] {0, 8, 11, 12, 14, 31, 127, 160, 255}) {
            c.fault("no BLANK " + b, c.schema(0, "record " + (char) b + "R{}"), 1, 7);
        }
        Check.due("a REMARK up to the next 10", c.schema(0, "record#\r?\"\u00ff\nR{}"), 1);
        Check.due("a REMARK up to the end", c.schema(0, "record R{}#\"?"), 1);
        Check.due("a REMARK alone", c.schema(0, "#"), 0);
        c.fault("13 does not end a REMARK", c.schema(0, "record#\rR{}"), 2, 11);
        c.fault("the end is the text's length, blanks too", c.schema(0, "record R { \n\t"), 2, 13);
        c.fault("and with a REMARK", c.schema(0, "record R {#ab"), 2, 13);
        Check.due("two REMARKS", c.schema(0, "#a\n#b\nrecord R{}#c\n"), 1);
    }

    private static void signs() {
        Check c = new Check();
        String all = "record R{many int a@1;map<int,int>b@2;one o{int c@3;}int d@4=- 5;}service S{cell z;call k(R)R@1{"
            + "z=1+2-3*4/5%6;z=1==2;z=1!=2;z=1<2;z=1<=2;z=1>2;z=1>=2;z=!1;z=(in.a);out.d=1;fail z;}}";
        Check.due("all SIGNS of schemas", c.schema(0, all), 1);
        Check.due("those of messages", c.read(0, 0, "R{a:[1,2],b:<1:2>}"), 6);
        for (String s : new String[] {"&", "|", "^", "?", "'", "$", "~", "`", "\\"}) {
            c.fault("no sign " + s, c.schema(0, all + s), 1, all.length());
        }
        for (String s : new String[] {"!", "=", "<", "+", ".", "}", ",", "@", ">=", "!="}) {
            c.fault("a sign that cannot stand there " + s, c.schema(0, all + s), 2, all.length());
        }
    }

    private static void exp(Check c, String exp, int fault, int at) {
        String head = "record R{}service S{cell z;call k(R)R@1{z=";
        int answer = c.schema(0, head + exp + ";}}");
        if (fault == 0) {
            Check.due(exp, answer, 1);
        } else {
            c.fault(exp, answer, fault, head.length() + at);
        }
    }

    private static void asLongAsCanBe() {
        Check c = new Check();
        exp(c, "1<=2", 0, 0);
        exp(c, "1< =2", 2, 3);
        exp(c, "1>=2", 0, 0);
        exp(c, "1> =2", 2, 3);
        exp(c, "1=2", 2, 1);
        exp(c, "1= =2", 2, 1);
        exp(c, "1!=2", 0, 0);
        exp(c, "1! =2", 2, 1);
        exp(c, "1==-2", 0, 0);
        exp(c, "1===2", 2, 3);
        exp(c, "1<-2", 0, 0);
        exp(c, "1<!z", 0, 0);
        exp(c, "!!z", 0, 0);
        exp(c, "!=z", 2, 0);
        exp(c, "1--1", 0, 0);
        exp(c, "zz", 5, 0);
        exp(c, "12z", 2, 2);
        exp(c, "z12", 5, 0);
        exp(c, "1=", 2, 1);
        c.fault("two = are one token", c.schema(0, "enum E { A ==1; }"), 2, 11);
        Check.due("= and - are two", c.schema(0, "enum E { A =-1; }"), 1);
        Check.due("an enum of it", c.house.field(0, 0, 0, 0), -1);
    }

    private static void signedInts() {
        Check c = new Check();
        Check.due("- and the NUMBER apart", c.schema(0, "enum E { A = - # x\n 1; }"), 1);
        Check.due("is -1", c.house.field(0, 0, 0, 0), -1);
        c.fault("one - at most", c.schema(0, "enum E { A = --1; }"), 2, 14);
        c.fault("no + in an INT", c.schema(0, "enum E { A = +1; }"), 2, 13);
        c.fault("- and the end", c.schema(0, "enum E { A = -"), 2, 14);
        c.schema(0, "record R { long a @ 1; }");
        Check.due("the least INT", c.read(0, 0, "R{a:-9223372036854775807}"), 1);
        c.fault("9223372036854775808 is no NUMBER behind - either", c.read(0, 0, "R{a:-9223372036854775808}"), 1, 5);
    }
}
