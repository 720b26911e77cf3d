/**
 * Section 2 of the document: what a text of a schema may have at most, and each fault with its place.
 * A ^ in a text stands ahead of the token of the fault; it is taken out.
 */
public final class Edges02Schemas {
    private static Check c = new Check();
    private static int told;

    public static void main(String[] args) {
        grammar();
        grammarOfCalls();
        mostTypes();
        mostParts();
        mostOfServices();
        mostNodes();
        mostWithin();
        toldAlready();
        firstOneCounts();
        notWanted();
        numbers();
        words();
        mapKeys();
        values();
        valuesOfKinds();
        outFields();
        leastPlace();
        schemaStays();
        newSchema();
        Check.end();
    }

    /** A new house now and then, as none is used for more than 512 calls. */
    private static void count() {
        told++;
        if (told % 4 == 0) {
            c = new Check();
        }
    }

    private static void wrong(int fault, String marked) {
        count();
        c.fault(marked, c.schema(1, marked.replace("^", "")), fault, marked.indexOf('^'));
    }

    private static void good(String text, int types) {
        count();
        Check.due(text, c.schema(1, text), types);
    }

    private static String each(String text, int n) {
        return each(text, 1, n);
    }

    private static String each(String text, int first, int last) {
        StringBuilder all = new StringBuilder();
        for (int i = first; i <= last; i++) {
            all.append(text.replace("#", String.valueOf(i)));
        }
        return all.toString();
    }

    private static void grammar() {
        good("", 0);
        wrong(2, "^x");
        wrong(2, "^1");
        wrong(2, "record R {} ^}");
        wrong(2, "record R {} ^int");
        wrong(2, "record^");
        wrong(2, "record R^");
        wrong(2, "record R ^;");
        wrong(2, "enum E { ^}");
        wrong(2, "enum E { A ^; }");
        wrong(2, "enum E { A = ^; }");
        wrong(2, "enum E { A = ^B; }");
        wrong(2, "enum E { A = ^\"1\"; }");
        wrong(2, "enum E { A = 1 ^}");
        wrong(2, "enum E { A = 1 ^, ");
        good("record R { }", 1);
        wrong(2, "record R { ^; }");
        wrong(2, "record R { int ^@ 1; }");
        wrong(2, "record R { int x ^1; }");
        wrong(2, "record R { int x @ ^; }");
        wrong(2, "record R { int x @ ^-1; }");
        wrong(2, "record R { int x @ ^y; }");
        wrong(2, "record R { int x @ 1 ^}");
        wrong(2, "record R { int x @ 1 = ^; }");
        wrong(2, "record R { int x @ 1 = ^record; }");
        wrong(2, "record R { int x @ 1 = - ^x; }");
        wrong(2, "record R { int x @ 1 = 1 ^2; }");
        wrong(2, "record R { many ^many int x @ 1; }");
        wrong(2, "record R { many ^maybe int x @ 1; }");
        wrong(2, "record R { maybe ^many int x @ 1; }");
        wrong(2, "record R { many x ^; }");
        wrong(2, "record R { map ^int x @ 1; }");
        wrong(2, "record R { map<int^> x @ 1; }");
        wrong(2, "record R { map<int, ^> x @ 1; }");
        wrong(2, "record R { map<int, int^, ");
        wrong(2, "record R { map<int, ^many int> x @ 1; }");
        wrong(2, "record R { map<int, ^map<int, int>> x @ 1; }");
        wrong(2, "record R { map<^map<int, int>, int> x @ 1; }");
        wrong(2, "record R { one ^{ int x @ 1; } }");
        wrong(2, "record R { one o { ^} }");
        wrong(2, "record R { one o { ^one p { int x @ 1; } } }");
        wrong(2, "record R { one o { ^keep 1; } }");
        wrong(2, "record R { one o { int x @ 1; }^; }");
        wrong(2, "record R { keep ^; }");
        wrong(2, "record R { keep 1, ^; }");
        wrong(2, "record R { keep 1 ^2; }");
        wrong(2, "record R { keep ^-1; }");
        wrong(2, "record R { keep ^x; }");
        wrong(2, "record R { int x @ 1;^");
        good("record R { keep 1; keep 2, 3; one o { int x @ 4; } keep 5; int y @ 6; }", 1);
    }

    private static void call(int fault, String steps) {
        String head = "record R { int x @ 1; } service S { cell z; call k (R) R @ 1 { ";
        if (fault == 0) {
            good(head + steps + "} }", 1);
        } else {
            wrong(fault, head + steps + "} }");
        }
    }

    private static void grammarOfCalls() {
        good("service S { }", 0);
        good("record R { } service S { call k (R) R @ 1 { } }", 1);
        wrong(2, "service S { cell ^; }");
        wrong(2, "service S { cell x ^}");
        wrong(2, "service S { ^int x; }");
        wrong(2, "record R { } service S { call k (R) R @ 1 { } ^cell x; }");
        wrong(2, "record R { } service S { call k ^R @ 1 { } }");
        wrong(2, "record R { } service S { call k (^int) R @ 1 { } }");
        wrong(2, "record R { } service S { call k (R) ^@ 1 { } }");
        wrong(2, "record R { } service S { call k (R) R ^{ } }");
        wrong(2, "record R { } service S { call k (R) R @ ^-1 { } }");
        wrong(2, "record R { } service S { call k (R) R @ 1^; }");
        call(0, "");
        call(2, "^in.x = 1; ");
        call(2, "out ^x = 1; ");
        call(2, "out.^1 = 1; ");
        call(2, "out.x ^1; ");
        call(2, "z ^== 1; ");
        call(2, "z = ^; ");
        call(2, "z = 1 ^");
        call(2, "fail ^; ");
        call(2, "fail ^= 1; ");
        call(2, "^1 = 1; ");
        call(2, "z = in ^x; ");
        call(2, "z = in.^in; ");
        call(2, "z = ^out.x; ");
        call(2, "z = ^true; ");
        call(2, "z = ^\"1\"; ");
        call(2, "z = (1^; ");
        call(2, "z = (^); ");
        call(2, "z = 1^); ");
        call(2, "z = 1 + ^; ");
        call(2, "z = ^* 1; ");
        call(2, "z = ^+ 1; ");
        call(2, "z = - ^; ");
        call(2, "z = 1 < 2 ^< 3; ");
        call(2, "z = 1 == 2 ^!= 3; ");
        call(0, "z = (1 == 2) != 3; ");
        call(0, "z = 1 + -!(in . x) * 2 % z - - 3 >= z; fail z; out.x = z; ");
    }

    private static void mostTypes() {
        good(each("record R#{}", 30), 30);
        good(each("enum E#{A=1;}", 30), 30);
        good(each("enum E#{A=1;}", 15) + each("record R#{}", 15) + each("service S#{}", 4), 30);
        wrong(3, each("enum E#{A=1;}", 15) + each("record R#{}", 15) + "enum ^X{A=1;}");
        wrong(3, each("enum E#{A=1;}", 30) + "record ^X{}");
        wrong(3, each("service S#{}", 4) + each("record R#{}", 30) + "record ^X");
        wrong(3, each("record R#{}", 30) + "record ^R1{}");
        wrong(2, each("record R#{}", 30) + "record ^{}");
        wrong(1, each("record R#{}", 30) + "record ^?");
        wrong(3, each("service S#{}", 4) + "service ^S1{}");
        wrong(2, each("service S#{}", 4) + "service ^{}");
    }

    private static void mostParts() {
        good("enum E{" + each("A#=#;", 16) + "}", 1);
        wrong(3, "enum E{" + each("A#=#;", 16) + "^A17=17;}");
        wrong(3, "enum E{" + each("A#=#;", 16) + "^A1=17;}");
        wrong(2, "enum E{" + each("A#=#;", 16) + "^1}");
        good("enum E{" + each("A#=#;", 16) + "} enum F{" + each("A#=#;", 16) + "}", 2);
        good("record R{" + each("int f#@#;", 24) + "keep 99;}", 1);
        wrong(3, "record R{" + each("int f#@#;", 24) + "int ^x @ 25;}");
        wrong(3, "record R{" + each("int f#@#;", 24) + "many X ^f1 @ 0 = 9;}");
        wrong(2, "record R{" + each("int f#@#;", 24) + "int ^@ 25;}");
        good("record R{one o{" + each("int f#@#;", 24) + "}}", 1);
        wrong(3, "record R{one o{" + each("int f#@#;", 24) + "int ^x@25;}}");
        wrong(3, "record R{" + each("int f#@#;", 12) + "one o{" + each("int f#@#;", 13, 24) + "} one p{int ^x@25;}}");
        wrong(3, "record R{one o{" + each("int f#@#;", 12) + "}" + each("int f#@#;", 13, 24) + "map<int,int> ^x@25;}");
        good("record R{" + each("int f#@#;", 24) + "} record Q{" + each("int f#@#;", 24) + "}", 2);
        good("record R{" + each("one o#{int f#@#;}", 8) + "}", 1);
        wrong(3, "record R{" + each("one o#{int f#@#;}", 8) + "one ^o9{int f9@9;}}");
        wrong(3, "record R{" + each("one o#{int f#@#;}", 8) + "one ^o1");
        good("record R{" + each("one o#{int f#@#;}", 8) + "} record Q{" + each("one o#{int f#@#;}", 8) + "}", 2);
        good("record R{" + each("keep #;", 200) + "}", 1);
    }

    private static void mostOfServices() {
        String r = "record R{}";
        good(r + "service S{" + each("cell c#;", 8) + each("call k#(R)R@#{}", 10) + "}", 1);
        wrong(3, "service S{" + each("cell c#;", 8) + "cell ^c9;}");
        wrong(3, "service S{" + each("cell c#;", 8) + "cell ^c1;}");
        wrong(3, r + "service S{" + each("call k#(R)R@#{}", 10) + "call ^x(R)R@11{}}");
        wrong(3, r + "service S{" + each("call k#(R)R@#{}", 10) + "call ^k1");
        good(r + "service S{" + each("cell c#;", 8) + each("call k#(R)R@#{}", 10) + "} service T{"
            + each("cell c#;", 8) + each("call k#(R)R@#{}", 10) + "}", 1);
    }

    private static void nodes(int fault, String steps) {
        call(fault, steps);
    }

    private static void mostNodes() {
        String ninety9 = "z=1" + Check.times("+1", 49);
        nodes(0, ninety9 + ";fail 1;");
        Check.due("100 NODES", c.house.service(1, 0, 0, 6), 100);
        nodes(3, ninety9 + ";fail 1;fail ^1;");
        nodes(3, ninety9 + ";fail 1;z = ^z;");
        nodes(3, ninety9 + ";fail 1;out.x = ^in.x;");
        nodes(3, ninety9 + ";fail 1;out.x = ^in?");
        nodes(3, ninety9 + ";fail 1;out.x = ^-z;");
        nodes(3, ninety9 + ";fail 1;out.x = ^!?");
        nodes(3, ninety9 + ";fail 1;out.x = ((^2));");
        for (String op : "+ - * / % == != < <= > >=".split(" ")) {
            nodes(3, ninety9 + ";fail 1 ^" + op + " 1;");
            nodes(3, ninety9 + op + "^1;");
        }
        nodes(3, ninety9 + ";fail (1) ^+ 1;");
        nodes(3, ninety9 + ";fail -^1;");
        nodes(3, ninety9 + ";fail 1;fail ^y;");
        nodes(0, ninety9 + ";fail (((1)));");
        nodes(0, each("z=in.x;", 100));
        Check.due("what steps go to are no NODES", c.house.service(1, 0, 0, 6), 100);
        Check.due("steps", c.house.service(1, 0, 0, 5), 100);
        nodes(3, each("z=in.x;", 100) + "out.x=^in.x;");
        nodes(0, each("z=in.x;", 100) + "} call l (R) R @ 2 {" + each("fail z;", 100));
        Check.due("those of the next call count anew", c.house.service(1, 0, 1, 6), 100);
    }

    private static void mostWithin() {
        call(0, "z=" + Check.times("(", 10) + "1" + Check.times(")", 10) + ";");
        call(3, "z=" + Check.times("(", 10) + "^(1" + Check.times(")", 11) + ";");
        call(0, "z=" + Check.times("-", 10) + "1;");
        call(3, "z=" + Check.times("-", 10) + "^-1;");
        call(3, "z=" + Check.times("!", 10) + "^!1;");
        call(3, "z=" + Check.times("!(", 5) + "^-?");
        call(3, "z=" + Check.times("!(", 5) + "1 + ^-1");
        call(0, "z=" + Check.times("!(", 5) + "1 - 1" + Check.times(")", 5) + ";");
        call(3, "z=" + Check.times("!(", 5) + "1 - ^-1" + Check.times(")", 5) + ";");
        call(0, "z=" + Check.times("-", 10) + "1 + " + Check.times("(", 10) + "1" + Check.times(")", 10) + ";");
        call(0, "z=(" + Check.times("-", 9) + "1 + " + Check.times("!", 9) + "1);");
        call(3, "z=(" + Check.times("-", 9) + "1 + " + Check.times("!", 9) + "^!1);");
        call(0, "z=" + Check.times("(", 10) + "1" + Check.times(")", 10) + ";z=" + Check.times("(", 10) + "1" + Check.times(")", 10) + ";");
        call(2, "z=" + Check.times("(", 10) + "1" + Check.times(")", 9) + "^;");
        call(0, "z=1" + Check.times("+-1", 30) + ";");
    }

    private static void toldAlready() {
        wrong(4, "enum A { X = 1; } enum ^A { X = 1; }");
        wrong(4, "record A { } record ^A { }");
        wrong(4, "record A { } enum ^A { X = 1; }");
        wrong(4, "enum A { X = 1; } service ^A { }");
        wrong(4, "service A { } enum ^A { X = 1; }");
        wrong(4, "service A { } service ^A { }");
        wrong(4, "enum E { X = 1; Y = 2; ^X = 3; }");
        wrong(4, "record R { int x @ 1; int ^x @ 2; }");
        wrong(4, "record R { int x @ 1; one ^x { int y @ 2; } }");
        wrong(4, "record R { one x { int y @ 2; } one ^x { int z @ 1; } }");
        wrong(4, "record R { one x { int ^x @ 2; } }");
        wrong(4, "record R { one o { int x @ 2; int ^x @ 3; } }");
        wrong(4, "record R { one o { int x @ 2; } int ^x @ 3; }");
        wrong(4, "service S { cell x; cell ^x; }");
        wrong(4, "record R { } service S { cell x; call ^x (R) R @ 1 { } }");
        wrong(4, "record R { } service S { call x (R) R @ 1 { } call ^x (R) R @ 2 { } }");
        good("enum A { A = 1; B = 2; } enum B { A = 1; B = 2; }", 2);
        good("record A { A B @ 1; B A @ 2; } record B { one A { A B @ 1; } }", 2);
        good("record A { } service S { cell A; cell S; } service T { cell A; call S (A) A @ 1 { A = 1; } }", 1);
    }

    /** Of a NAME that is told twice the first one counts, enums and records ahead of services. */
    private static void firstOneCounts() {
        wrong(4, "record R { A a @ 1 = X; } enum A { X = 1; } record ^A { }");
        wrong(7, "record R { A a @ 1 = ^X; } record A { } enum A { X = 1; }");
        wrong(5, "record R { A a @ 1 = ^X; } enum A { Y = 1; } enum A { X = 1; }");
        wrong(4, "record R { A a @ 1 = X; } service A { } enum ^A { X = 1; }");
        wrong(4, "service A { call k (A) A @ 1 { } } record ^A { }");
        wrong(4, "service S { call k (R) R @ 1 { fail in.x; } } record R { int x @ 1; } record ^R { }");
        wrong(5, "service S { call k (R) R @ 1 { fail in.^x; } } record R { } record R { int x @ 1; }");
        wrong(4, "record R { E e @ 1 = X; } enum E { X = 1; ^X = 2; }");
        wrong(7, "service S { call k (R) R @ 1 { out.^x = 1; } } record R { many int x @ 1; int x @ 2; }");
        wrong(4, "service S { call k (R) R @ 1 { out.x = 1; } } record R { int x @ 1; many int ^x @ 2; }");
        // a field of a NAME that a one has first
        wrong(4, "service S { call k (R) R @ 1 { out.x = in.x; } } record R { one x { int y @ 1; } int ^x @ 2; }");
        wrong(7, "service S { call k (R) R @ 1 { out.^x = in.x; } } record R { one x { int y @ 1; } text x @ 2; }");
    }

    private static void notWanted() {
        wrong(5, "record R { ^X x @ 1; }");
        wrong(5, "record R { many ^S x @ 1; } service S { }");
        wrong(5, "record R { maybe ^o x @ 1; one o { int y @ 2; } }");
        wrong(5, "record R { map<int, ^X> x @ 1; }");
        wrong(5, "record R { map<^X, int> x @ 1; }");
        wrong(5, "record R { one o { ^X x @ 1; } }");
        good("record R { E e @ 1; R r @ 2; Q q @ 3; } enum E { A = 1; } record Q { }", 3);
        wrong(5, "record R { } service S { call k (^X) R @ 1 { } }");
        wrong(5, "record R { } service S { call k (R) ^X @ 1 { } }");
        wrong(5, "enum E { A = 1; } record R { } service S { call k (^E) R @ 1 { } }");
        wrong(5, "enum E { A = 1; } record R { } service S { call k (R) ^E @ 1 { } }");
        wrong(5, "record R { } service S { call k (^S) R @ 1 { } }");
        wrong(5, "enum E { A = 1; } enum F { B = 2; } record R { E e @ 1 = ^B; }");
        wrong(7, "enum E { A = 1; } record R { many E e @ 1 = ^B; }");
        wrong(7, "enum E { A = 1; } record R { maybe E e @ 1 = ^B; }");
        wrong(7, "enum E { A = 1; } record R { map<int, E> e @ 1 = ^B; }");
        wrong(7, "enum E { A = 1; } record R { one o { E e @ 1 = ^B; } }");
        wrong(7, "record R { int e @ 1 = ^B; }");
        wrong(7, "record R { text e @ 1 = ^B; }");
        wrong(7, "record R { R e @ 1 = ^B; }");
        call(5, "^x = 1; ");
        call(5, "^k = 1; ");
        call(5, "z = ^k; ");
        call(5, "z = ^x; ");
        call(5, "fail 1 + ^S; ");
        call(5, "out.^z = 1; ");
        call(5, "z = in.^z; ");
        wrong(5, "record R { } service S { cell z; } service T { call k (R) R @ 1 { ^z = 1; } }");
        wrong(5, "record R { one o { int x @ 1; } } service S { call k (R) R @ 1 { fail in.^o; } }");
        wrong(5, "record R { one o { int x @ 1; } } service S { call k (R) R @ 1 { out.^o = 1; } }");
        wrong(5, "record R { int x @ 1; } record Q { } service S { call k (Q) R @ 1 { out.x = in.^x; } }");
        wrong(5, "record R { int x @ 1; } record Q { } service S { call k (R) Q @ 1 { out.^x = in.x; } }");
    }

    private static void numbers() {
        wrong(6, "record R { int x @ ^0; }");
        wrong(6, "record R { int x @ ^2001; }");
        wrong(6, "record R { int x @ ^9223372036854775807; }");
        wrong(6, "record R { int x @ ^4294967297; }");
        good("record R { int x @ 1; int y @ 2000; }", 1);
        wrong(6, "record R { keep ^0; }");
        wrong(6, "record R { keep 5, ^2001; }");
        good("record R { keep 1, 2000; }", 1);
        wrong(6, "record R { int x @ 7; int y @ ^07; }");
        wrong(6, "record R { int x @ 7; one o { int y @ ^7; } }");
        wrong(6, "record R { one o { int x @ 7; int y @ ^7; } }");
        wrong(6, "record R { one o { int x @ 7; } one p { int y @ ^7; } }");
        wrong(6, "record R { keep 7; int y @ ^7; }");
        wrong(6, "record R { int y @ 7; keep 8, ^7; }");
        wrong(6, "record R { keep 7, ^7; }");
        wrong(6, "record R { keep 7; keep ^7; }");
        good("record R { int x @ 7; } record Q { int x @ 7; keep 8; } record P { keep 7; }", 3);
        wrong(6, "enum E { A = ^-32769; }");
        wrong(6, "enum E { A = ^32768; }");
        wrong(6, "enum E { A = ^- 9223372036854775807; }");
        wrong(6, "enum E { A = ^65536; B = 0; }");
        good("enum E { A = -32768; B = 32767; }", 1);
        wrong(6, "enum E { A = 1; B = ^01; }");
        wrong(6, "enum E { A = -1; B = 1; C = ^-1; }");
        wrong(6, "enum E { A = 0; B = ^-0; }");
        good("enum E { A = 1; } enum F { A = 1; }", 2);
        wrong(6, "record R { } service S { call k (R) R @ ^1001 { } }");
        wrong(6, "record R { } service S { call k (R) R @ ^9223372036854775807 { } }");
        wrong(6, "record R { } service S { call k (R) R @ 5 { } call l (R) R @ ^5 { } }");
        good("record R { } service S { call k (R) R @ 0 { } call l (R) R @ 1000 { } } service T { call k (R) R @ 0 { } }", 1);
    }

    private static void words() {
        wrong(7, "record R { one o { ^many int x @ 1; } }");
        wrong(7, "record R { one o { ^maybe int x @ 1; } }");
        wrong(7, "record R { one o { ^map<int, int> x @ 1; } }");
        wrong(7, "record R { one o { ^many map<int, int> x @ 1; } }");
        wrong(7, "record R { many ^map<int, int> x @ 1; }");
        wrong(7, "record R { maybe ^map<int, int> x @ 1; }");
        wrong(7, "record R { one o { int y @ 1; ^maybe X x @ 2; } }");
        good("record R { one o { R y @ 1; bytes x @ 2; } }", 1);
    }

    private static void mapKeys() {
        for (String kind : "int uint zint fix long ulong zlong fixlong text".split(" ")) {
            good("record R { map<" + kind + ", R> x @ 1; }", 1);
        }
        for (String kind : "bool bytes R E".split(" ")) {
            wrong(7, "enum E { A = 1; } record R { map<^" + kind + ", R> x @ 1; }");
        }
        wrong(5, "record R { map<^X, X> x @ 1; }");
        for (String kind : "bool int uint zint fix long ulong zlong fixlong text bytes E R".split(" ")) {
            good("enum E { A = 1; } record R { map<int, " + kind + "> x @ 1; }", 2);
        }
    }

    private static void value(int fault, String type, String value) {
        String head = "enum E { A = 1; } record R { " + type + " x @ 1 = ";
        if (fault == 0) {
            good(head + value + "; }", 2);
        } else {
            wrong(fault, head + "^" + value + "; }");
        }
    }

    private static void values() {
        value(7, "many int", "1");
        value(7, "maybe int", "1");
        value(7, "many text", "\"\"");
        value(7, "map<int, int>", "1");
        value(7, "R", "1");
        value(7, "R", "\"\"");
        value(7, "R", "true");
        value(7, "R", "-1");
        wrong(7, "record R { one o { int x @ 1 = ^1; } }");
        wrong(7, "record R { one o { text x @ 1 = ^\"\"; } }");
        wrong(5, "record R { ^X x @ 1 = 1; }");
        value(0, "text", "\"\"");
        value(0, "bytes", "\"\\xff\\x00\"");
        value(7, "text", "\"\\xff\"");
        value(0, "text", "\"\\x7f\\xc2\\x80\\xdf\\xbf\\xe0\\xa0\\x80\\xed\\x9f\\xbf\\xee\\x80\\x80\\xf0\\x90\\x80\\x80\\xf4\\x8f\\xbf\\xbf\"");
        for (String s : "80 c080 c1bf e09fbf eda080 edbfbf f08fbfbf f4908080 f5808080 c2 e0a0 f09080".split(" ")) {
            value(7, "text", "\"" + s.replaceAll("(..)", "\\\\x$1") + "\"");
        }
    }

    private static void valuesOfKinds() {
        String[][] within = {{"int", "-2147483648", "2147483647"}, {"zint", "-2147483648", "2147483647"},
            {"uint", "0", "4294967295"}, {"fix", "-0", "4294967295"}, {"E", "-32768", "32767"},
            {"long", "-9223372036854775807", "9223372036854775807"}, {"zlong", "-9223372036854775807", "9223372036854775807"},
            {"ulong", "0", "9223372036854775807"}, {"fixlong", "-0", "9223372036854775807"},
            {"bool", "false", "true"}, {"E", "A", "5"}};
        for (String[] w : within) {
            value(0, w[0], w[1]);
            value(0, w[0], w[2]);
        }
        String[][] beyond = {{"int", "-2147483649", "2147483648"}, {"zint", "-2147483649", "2147483648"},
            {"uint", "-1", "4294967296"}, {"fix", "-1", "4294967296"}, {"E", "-32769", "32768"},
            {"ulong", "-1", "true"}, {"fixlong", "-1", "\"1\""}, {"bool", "0", "1"}, {"bool", "-1", "A"},
            {"bool", "\"true\"", "A"}, {"long", "true", "\"1\""}, {"int", "false", "\"1\""}, {"E", "true", "\"A\""},
            {"text", "1", "true"}, {"text", "-1", "A"}, {"bytes", "1", "false"}, {"bytes", "-1", "A"}};
        for (String[] b : beyond) {
            value(7, b[0], b[1]);
            value(7, b[0], b[2]);
        }
        value(5, "E", "B");
    }

    private static void outFields() {
        String head = "enum E { A = 1; } record N { } record R { ";
        String call = " } service S { call k (R) R @ 1 { out.";
        for (String kind : "bool int uint zint fix long ulong zlong fixlong E".split(" ")) {
            good(head + kind + " x @ 1; maybe " + kind + " y @ 2; one o { " + kind + " z @ 3; }" + call + "x = 1; out.y = 1; out.z = 1; } }", 3);
            wrong(7, head + "many " + kind + " x @ 1;" + call + "^x = 1; } }");
            wrong(7, head + "map<int, " + kind + "> x @ 1;" + call + "^x = 1; } }");
        }
        for (String kind : "text bytes N R".split(" ")) {
            wrong(7, head + kind + " x @ 1;" + call + "^x = 1; } }");
            wrong(7, head + "maybe " + kind + " x @ 1;" + call + "^x = 1; } }");
            wrong(7, head + "one o { " + kind + " x @ 1; }" + call + "^x = 1; } }");
        }
        wrong(7, "service S { call k (R) R @ 1 { out.^x = 1; } } record R { X x @ 1; }");
        good(head + "many int a @ 1; text b @ 2; R c @ 3; map<int, int> d @ 4;" + call.replace("out.", "fail ") + "in.a + in.b + in.c + in.d; } }", 3);
    }

    /** Of what is wrong in the whole text the least place is told, of one place the least. */
    private static void leastPlace() {
        wrong(5, "record R { ^X x @ 0 = y; } record R { }");
        wrong(6, "record R { int x @ ^0 = y; } record R { }");
        wrong(7, "record R { int x @ 1 = ^y; } record R { }");
        wrong(4, "record R { int x @ 1; } record ^R { X x @ 1; }");
        wrong(4, "enum E { X = 1; ^X = 99999; }");
        wrong(7, "record R { one o { ^many X x @ 0; } }");
        wrong(5, "record R { map<^X, Y> x @ 0; }");
        wrong(2, "record R { X x @ 0; } record R { } ^}");
        wrong(1, "record R { X x @ 0; } record R { } ^?");
        wrong(3, "record R { X x @ 0; }" + each("record Q#{}", 29) + "enum ^E");
        wrong(5, "service S { call k (^X) Y @ 2000 { z = 1; } }");
        wrong(5, "record R { } service S { call k (R) ^Y @ 2000 { z = 1; } }");
        wrong(6, "record R { } service S { call k (R) R @ ^2000 { z = 1; } }");
        wrong(5, "record R { } service S { call k (R) R @ 1 { ^z = y; } }");
    }

    private static void schemaStays() {
        Check d = new Check();
        d.schema(2, "enum E { A = 1; } record R { int x @ 1 = 5; } service S { cell n; call k (R) R @ 1 { n = 1; } }");
        long mark = d.house.mark(2, 0, 1);
        d.read(2, 3, "R { x: 6 }");
        d.house.server(2, 0, 0);
        d.house.client(1, 2, 0);
        d.house.invoke(1, 0, 3);
        d.house.describe(2, 0);
        String[] wrong = {"record R { int x @ 1; } ?", "record R { int x @ 1; } }", each("service S#{}", 5),
            "record A { } record A { }", "record A { X x @ 1; }", "record A { int x @ 0; }", "record A { int x @ 1 = true; }"};
        for (int i = 0; i < wrong.length; i++) {
            Check.due("fault " + (i + 1), d.schema(2, wrong[i]), -11 - i);
            d.house.describe(2, 1);
            Check.due("the schema stays", d.house.equal(0, 1), 1);
        }
        Check.due("its types", d.house.types(2, 0), 2);
        Check.due("its MARK", d.house.mark(2, 0, 1), mark);
        d.printed("its messages", 3, "R{x:6}");
        Check.due("its server and LETTERS", d.house.net(0), 1);
        Check.due("its clients", d.house.outcome(1, 0, 0), 0);
        Check.due("schemas of other numbers are none still", d.house.types(1, 0), Check.NO);
    }

    private static void newSchema() {
        Check d = new Check();
        String text = "record R { int x @ 1; } service S { cell n; call k (R) R @ 1 { n = n + 1; } }";
        for (int s = 0; s < 4; s++) {
            d.schema(s, text);
            d.read(s, 3 * s, "R { x: 6 }");
            d.read(s, 3 * s + 1, "R { }");
        }
        d.house.server(3, 0, 0);
        d.house.client(0, 3, 0);
        d.house.client(1, 1, 0);
        d.house.client(2, 2, 0);
        d.house.invoke(0, 0, 9);
        d.house.invoke(1, 0, 3);
        d.house.invoke(2, 0, 6);
        d.schema(1, text);
        Check.due("messages of the schema are gone", d.house.told(3, 0), Check.NO);
        Check.due("all of them", d.house.told(4, 0), Check.NO);
        Check.due("those of another one are not", d.house.told(0, 0) * 100 + d.house.told(6, 0) * 10 + d.house.told(10, 0), 23);
        Check.due("clients that go by it are gone", d.house.outcome(1, 0, 0), Check.BAD);
        Check.due("others are not", d.house.outcome(0, 0, 0) + d.house.outcome(2, 0, 0), 0);
        Check.due("their LETTERS stay", d.house.net(0), 3);
        d.house.deliver(1);
        Check.due("and are answered", d.house.letter(2, 0), 1);
        Check.due("the answer comes to no client", d.house.deliver(2), 2);
        d.house.tick(4);
        d.schema(3, text);
        Check.due("the server is gone", d.house.crash(), Check.NO);
        Check.due("with all LETTERS", d.house.net(0), 0);
        Check.due("the time", d.house.net(1), 0);
        Check.due("all clients", d.house.outcome(0, 0, 0) * 10 + d.house.outcome(2, 0, 0), -11);
        Check.due("its cells", d.house.cell(0), 0);
        Check.due("a schema of no items is one, too", d.schema(0, "#"), 0);
        Check.due("messages go with it", d.house.told(0, 0), Check.NO);
    }
}
