/** Section 9 of the document: schemas WRITTEN OUT, and MARKS. */
public final class Edges09Marks {
    private static Check c;

    public static void main(String[] args) {
        nothing();
        numbers();
        strings();
        everything();
        asTheyStand();
        room();
        describeRefused();
        marksOfOne();
        marksInTurn();
        marksOfServices();
        marksOfNone();
        marksStay();
        Check.end();
    }

    /** A schema WRITTEN OUT is this; READ again, it is the same. */
    private static void out(String text, String due) {
        c = new Check();
        Check.due(text, c.schema(0, text) >= 0 ? 1 : 0, 1);
        Check.due("describe " + text, c.house.describe(0, 3), due.length());
        c.row("WRITTEN OUT", 3, due);
        c.house.unload(3);
        Check.due("READ again", c.house.schema(1), c.house.types(0, 0));
        Check.due("and WRITTEN OUT", c.house.describe(1, 4), due.length());
        Check.due("the same", c.house.equal(3, 4), 1);
    }

    private static void nothing() {
        out("", "");
        out(" \t\r\n", "");
        out("# record R { }", "");
        out("record R{}", "record R { }");
        out("service S{}", "service S { }");
        out("record R{}#\nservice S{}#", "record R { } service S { }");
    }

    private static void numbers() {
        out("enum E{A=00;B=-07;}", "enum E { A = 0 ; B = - 7 ; }");
        out("enum E{A=-0;B=000000000000000001;}", "enum E { A = - 0 ; B = 1 ; }");
        out("record R{int a@01=007;long b@0002000=-0000000000000000009;keep 03,004;}", "record R { int a @ 1 = 7 ; long b @ 2000 = - 9 ; keep 3 , 4 ; }");
        out("record R{int a@1=0;int b@2=0000000000000000000;int c@3=-000;}", "record R { int a @ 1 = 0 ; int b @ 2 = 0 ; int c @ 3 = - 0 ; }");
        out("record R{ulong a@1=9223372036854775807;}", "record R { ulong a @ 1 = 9223372036854775807 ; }");
        out("record R{}service S{cell c;call k(R)R@000{c=00+0100-010;}}", "record R { } service S { cell c ; call k ( R ) R @ 0 { c = 0 + 100 - 10 ; } }");
        out("record R{int a@10;int b@100;int c@1000;}", "record R { int a @ 10 ; int b @ 100 ; int c @ 1000 ; }");
    }

    private static void strings() {
        out("record R{text t@1=\"\";bytes s@2=\"\\x00\\xff\";}", "record R { text t @ 1 = \"\" ; bytes s @ 2 = \"\\x00\\xff\" ; }");
        // as they were told, also where there are shorter ways
        out("record R{text t@1=\"\\x41\\\"\\\\\\x22 # ;\";}", "record R { text t @ 1 = \"\\x41\\\"\\\\\\x22 # ;\" ; }");
        String sixty = Check.times("\\x00", 60);
        out("record R{text t@1=\"" + sixty + "\";}", "record R { text t @ 1 = \"" + sixty + "\" ; }");
        out("record R{text t@1=\"007\";}", "record R { text t @ 1 = \"007\" ; }");
    }

    private static void everything() {
        out("enum E{A=1;}record N{}record R{bool b@1=true;bool c@2=false;int i@3;uint u@4;zint z@5;fix f@6;long j@7;ulong w@8;zlong y@9;fixlong g@10;text t@11;bytes s@12;E e@13=A;N n@14;many R l@15;maybe E m@16;map<text,R>k@17;one o{int p@18;N q@19;}keep 20,21;}",
            "enum E { A = 1 ; } record N { } record R { bool b @ 1 = true ; bool c @ 2 = false ; int i @ 3 ; uint u @ 4 ; zint z @ 5 ; fix f @ 6 ; long j @ 7 ; ulong w @ 8 ; zlong y @ 9 ; fixlong g @ 10 ; text t @ 11 ; bytes s @ 12 ; E e @ 13 = A ; N n @ 14 ; many R l @ 15 ; maybe E m @ 16 ; map < text , R > k @ 17 ; one o { int p @ 18 ; N q @ 19 ; } keep 20 , 21 ; }");
        out("record R{int a@1;}service S{cell c;cell d;call k(R)R@1000{c=(((1)));d=!-c*2/3%4+5-6;out.a=in.a==c;fail 1!=2;fail 1<2;fail 1<=2;fail 1>2;fail 1>=2;}call l(R)R@1{}}",
            "record R { int a @ 1 ; } service S { cell c ; cell d ; call k ( R ) R @ 1000 { c = ( ( ( 1 ) ) ) ; d = ! - c * 2 / 3 % 4 + 5 - 6 ; out . a = in . a == c ; fail 1 != 2 ; fail 1 < 2 ; fail 1 <= 2 ; fail 1 > 2 ; fail 1 >= 2 ; } call l ( R ) R @ 1 { } }");
    }

    /** Items as they stand, not by numbers or sorts. */
    private static void asTheyStand() {
        out("service S{call k(B)A@1{}}record B{int y@2;int x@1;}enum E{Z=2;A=1;}record A{keep 9,7;}",
            "service S { call k ( B ) A @ 1 { } } record B { int y @ 2 ; int x @ 1 ; } enum E { Z = 2 ; A = 1 ; } record A { keep 9 , 7 ; }");
    }

    /** 4000 bytes may be WRITTEN OUT: 14 for what is around, 6 for most kept numbers. */
    private static void room() {
        StringBuilder keeps = new StringBuilder("record R{keep 1");
        for (int i = 2; i <= 700; i++) {
            if (i != 699 && i != 698 && i != 697) {
                keeps.append(',').append(i);
            }
        }
        c = new Check();
        c.load(2, "41");
        Check.due("too much", c.schema(0, keeps + ";}"), 1);
        Check.due("FULL", c.house.describe(0, 2), Check.FULL);
        c.row("the row stays", 2, "A");
        // 680 numbers, and the NAME fills what lacks
        String text = keeps.substring(0, keeps.indexOf(",681"));
        int due = text.replace("{", " { ").replace(",", " , ").length() + 4;
        for (int more = 0; more < 2; more++) {
            String name = Check.times("R", 1 + 4000 - due + more);
            c = new Check();
            c.load(2, "41");
            Check.due("the NAME may be", name.length() <= 16 ? 1 : 0, 1);
            Check.due("schema", c.schema(0, text.replace("R{", name + "{") + ";}"), 1);
            Check.due("4000 bytes and " + more, c.house.describe(0, 2), more == 0 ? 4000 : Check.FULL);
            Check.due("the row", c.house.size(2), more == 0 ? 4000 : 1);
        }
    }

    private static void describeRefused() {
        c = new Check();
        c.schema(0, "record R { }");
        for (int[] b : new int[][] {{-1, 0}, {4, 0}, {0, -1}, {0, 8}, {2, 8}, {4, 8}}) {
            Check.due("BAD", c.house.describe(b[0], b[1]), Check.BAD);
        }
        c.load(0, "41");
        Check.due("NO", c.house.describe(1, 0), Check.NO);
        c.row("the row stays", 0, "A");
        c.fault("a fault", c.schema(0, "record Q { } }"), 2, 13);
        c.house.describe(0, 0);
        c.row("the schema stays", 0, "record R { }");
    }

    private static long mark(String... texts) {
        long h = -3750763034362895579L;
        for (String text : texts) {
            for (int i = 0; i < text.length(); i++) {
                h = (h ^ text.charAt(i)) * 1099511628211L;
            }
        }
        return h;
    }

    private static void marksOfOne() {
        c = new Check();
        c.schema(0, "enum E{A=07;B=-1;}record N{}record R{int a@01=-0;text t@2=\"\\x41\";keep 3;}");
        Check.due("14695981039346656037", mark(), Long.parseUnsignedLong("14695981039346656037"));
        Check.due("an enum", c.house.mark(0, 0, 0), mark("enum E { A = 7 ; B = - 1 ; } "));
        Check.due("an empty record", c.house.mark(0, 0, 1), mark("record N { } "));
        Check.due("a record", c.house.mark(0, 0, 2), mark("record R { int a @ 1 = - 0 ; text t @ 2 = \"\\x41\" ; keep 3 ; } "));
        // blanks, remarks, 0s in front do not matter
        c.schema(1, "# x\nrecord  N\t{ }");
        Check.due("the same record", c.house.mark(1, 0, 0), c.house.mark(0, 0, 1));
    }

    /** Its own parts in order, then those of each of these, one after the other, each once. */
    private static void marksInTurn() {
        c = new Check();
        String a = "record A { A a @ 1 ; many C c @ 2 ; map < int , B > b @ 3 ; maybe C d @ 4 ; } ";
        String b = "record B { E e @ 1 = X ; A a @ 2 ; } ";
        String cc = "record C { one o { int i @ 9 ; D d @ 1 ; } B b @ 2 ; F f @ 3 ; } ";
        String d = "record D { map < text , G > g @ 1 ; } ";
        String e = "enum E { X = 1 ; } ";
        String f = "enum F { X = 1 ; } ";
        String g = "enum G { X = 1 ; } ";
        c.schema(0, g + d + a + b + cc + e + f);
        Check.due("A, then C, B, then D, F, E, then G", c.house.mark(0, 0, 2), mark(a, cc, b, d, f, e, g));
        Check.due("B, then E, A, then C, then D, F, then G", c.house.mark(0, 0, 3), mark(b, e, a, cc, d, f, g));
        Check.due("C, then D, B, F, then G, E, A", c.house.mark(0, 0, 4), mark(cc, d, b, f, g, e, a));
        Check.due("D, then G", c.house.mark(0, 0, 1), mark(d, g));
        Check.due("G", c.house.mark(0, 0, 0), mark(g));
        Check.due("F", c.house.mark(0, 0, 6), mark(f));
    }

    private static void marksOfServices() {
        c = new Check();
        String a = "record A { B b @ 1 ; } ";
        String b = "record B { } ";
        String d = "record D { E e @ 1 ; } ";
        String e = "enum E { X = 1 ; } ";
        String s = "service S { cell x ; call k ( D ) D @ 1 { x = 1 ; } call l ( D ) A @ 2 { } } ";
        String t = "service T { } ";
        c.schema(0, s + a + b + t + d + e);
        Check.due("S, then D, A, then E, B", c.house.mark(0, 1, 0), mark(s, d, a, e, b));
        Check.due("T", c.house.mark(0, 1, 1), mark(t));
        Check.due("a type's", c.house.mark(0, 0, 0), mark(a, b));
        // a cell that has a type's NAME names no type
        c.schema(0, "record B { } record D { } service S { cell B ; call D ( D ) D @ 1 { B = B ; } } ");
        Check.due("S, then D", c.house.mark(0, 1, 0), mark("service S { cell B ; call D ( D ) D @ 1 { B = B ; } } ", "record D { } "));
        // nor has a field
        c.schema(0, "record B { } record R { int B @ 1 ; } ");
        Check.due("R alone", c.house.mark(0, 0, 1), mark("record R { int B @ 1 ; } "));
        c.schema(0, "record B { } enum E { B = 1 ; } record R { E R @ 1 = B ; } ");
        Check.due("R, then E", c.house.mark(0, 0, 2), mark("record R { E R @ 1 = B ; } ", "enum E { B = 1 ; } "));
    }

    private static void marksOfNone() {
        c = new Check();
        c.schema(0, "record R { } service S { }");
        int[][] none = {{-1, 0, 0}, {4, 0, 0}, {1, 0, 0}, {1, 1, 0}, {0, -1, 0}, {0, 2, 0}, {0, 0, -1}, {0, 0, 1}, {0, 1, -1}, {0, 1, 1},
            {Integer.MAX_VALUE, 0, 0}, {Integer.MIN_VALUE, 0, 0}, {0, 0, Integer.MAX_VALUE}, {0, 1, Integer.MIN_VALUE}};
        for (int[] n : none) {
            Check.due("mark(" + n[0] + ", " + n[1] + ", " + n[2] + ")", c.house.mark(n[0], n[1], n[2]), 0);
        }
        Check.due("the last type", c.house.mark(0, 0, 0), mark("record R { } "));
        Check.due("the last service", c.house.mark(0, 1, 0), mark("service S { } "));
    }

    private static void marksStay() {
        c = new Check();
        c.schema(0, "record R { }");
        long before = c.house.mark(0, 0, 0);
        c.fault("a fault", c.schema(0, "record Q { X x @ 1; }"), 5, 11);
        Check.due("the MARK stays", c.house.mark(0, 0, 0), before);
        c.schema(3, "record R { }");
        Check.due("of the last schema", c.house.mark(3, 0, 0), before);
        c.schema(0, "");
        Check.due("none now", c.house.mark(0, 0, 0), 0);
    }
}
