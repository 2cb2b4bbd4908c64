/** Promises 4 and 5: the language of STRIPS and CLOTHS, and where its FAULTS are. */
public final class FaultsTest {
    private static final String ONE = "strip a: a1; ";

    public static void main(String[] args) {
        tokens();
        standing();
        tooMany();
        numbers();
        names();
        picks();
        firstAlongTheText();
        whatIsRight();
        Check.end();
    }

    private static void right(String text) {
        Check.with(text);
    }

    private static String times(String what, int n) {
        return what.repeat(n);
    }

    private static void tokens() {
        Check.faultAt("^A", 1);
        Check.faultAt("strip ^A: a1;", 1);
        Check.faultAt("strip a^\t: a1;", 1);
        Check.faultAt("strip a: a1;^\r\n", 1);
        Check.faultAt("strip a: a^-1;", 1);
        Check.faultAt("strip a: a1;^\0", 1);
        Check.faultAt("strip a: a1;^\u00ff", 1);
        Check.faultAt("strip a: a^00001;", 1);
        Check.faultAt("strip a: ^00002(a1);", 1);
        Check.faultAt("strip ^12345: a1;", 1);
        Check.faultAt("^12345678901234567890", 1);
        Check.faultAt(ONE + "cloth b: a + ^00000;", 1);
        Check.faultAt("strip a: a1 ^[b1];", 1);
        Check.faultAt("^" + times("9", 799), 1);
    }

    private static void standing() {
        Check.faultAt("^;", 2);
        Check.faultAt("^1234", 2);
        Check.faultAt("^stripa: a1;", 2);
        Check.faultAt("^turn", 2);
        Check.faultAt("^xtrip a: a1;", 2);
        Check.faultAt("^strix a: a1;", 2);
        Check.faultAt("strip a: ^xurn(a1);", 2);
        Check.faultAt("strip a: ^turx(a1);", 2);
        Check.faultAt(ONE + "^xloth b: a;", 2);
        Check.faultAt(ONE + "^clotx b: a;", 2);
        Check.faultAt(ONE + "cloth b: ^burn a;", 2);
        Check.faultAt("strip a: a1 2(^);", 2);
        Check.faultAt("strip a: a1 turn(^);", 2);
        Check.faultAt("strip a: a1 2(b1 turn(^));", 2);
        Check.faultAt("strip^", 2);
        Check.faultAt("strip   ^", 2);
        Check.faultAt("strip ^turn: a1;", 2);
        Check.faultAt("strip ^strip: a1;", 2);
        Check.faultAt("strip ^1: a1;", 2);
        Check.faultAt("strip a ^a1;", 2);
        Check.faultAt("strip a: ^;", 2);
        Check.faultAt("strip a: ^)", 2);
        Check.faultAt("strip a: a1^)", 2);
        Check.faultAt("strip a: ^i1;", 2);
        Check.faultAt("strip a: ^aa1;", 2);
        Check.faultAt("strip a: a ^b1;", 2);
        Check.faultAt("strip a: a1 ^, b1;", 2);
        Check.faultAt("strip a: a1 ^+ 1;", 2);
        Check.faultAt("strip a: a1 ^strip b: a1;", 2);
        Check.faultAt("strip a: 2 ^3(a1);", 2);
        Check.faultAt("strip a: a1 2^;", 2);
        Check.faultAt("strip a: ^(a1);", 2);
        Check.faultAt("strip a: turn ^2(a1);", 2);
        Check.faultAt("strip a: turn(^);", 2);
        Check.faultAt("strip a: 2(turn(a1)^;", 2);
        Check.faultAt("strip a: 2(turn(a1))^)", 2);
        Check.faultAt("strip a: 2(a1^", 2);
        Check.faultAt("strip a: a1;^;", 2);
        Check.faultAt(ONE + "cloth b^", 2);
        Check.faultAt(ONE + "cloth ^turn: a;", 2);
        Check.faultAt(ONE + "cloth ^bc: a;", 2);
        Check.faultAt(ONE + "cloth b: ^;", 2);
        Check.faultAt(ONE + "cloth b: a^", 2);
        Check.faultAt(ONE + "cloth b: a ^a;", 2);
        Check.faultAt(ONE + "cloth b: a,^;", 2);
        Check.faultAt(ONE + "cloth b: ^,a;", 2);
        Check.faultAt(ONE + "cloth b: turn ^turn a;", 2);
        Check.faultAt(ONE + "cloth b: turn^(a);", 2);
        Check.faultAt(ONE + "cloth b: ^aa;", 2);
        Check.faultAt(ONE + "cloth b: ^3;", 2);
        Check.faultAt(ONE + "cloth b: a ^3;", 2);
        Check.faultAt(ONE + "cloth b: a + ^a;", 2);
        Check.faultAt(ONE + "cloth b: a + 3 ^+ 3;", 2);
        Check.faultAt(ONE + "cloth b: a + 3 ^a;", 2);
        Check.faultAt(ONE + "cloth b: a + 3^", 2);
        Check.faultAt(ONE + "cloth b: a; ^strip c: a1;", 2);
        Check.faultAt(ONE + "cloth b: a; ^b", 2);
    }

    private static void tooMany() {
        right(Check.strips(12) + Check.cloths(6));
        Check.faultAt(Check.strips(12) + "^strip m:a1;", 3);
        Check.faultAt(Check.strips(12) + "^strip", 3);
        Check.faultAt(Check.strips(12) + "^strip a:a1;", 3);
        Check.faultAt(ONE + Check.cloths(6) + "^cloth m:a;", 3);
        Check.faultAt(ONE + Check.cloths(6) + "^cloth a:a;", 3);
        Check.faultAt(Check.strips(12) + Check.cloths(6) + "^strip m:a1;", 2);
        right(ONE + "cloth b: " + times("a,", 11) + "a;");
        Check.faultAt(ONE + "cloth b: " + times("a,", 12) + "^a;", 3);
        Check.faultAt(ONE + "cloth b: " + times("a,", 12) + "^z;", 3);
        Check.faultAt(ONE + "cloth b: " + times("turn a + 50,", 12) + "^turn a;", 3);
        Check.faultAt(ONE + "cloth b: " + times("a,", 12) + "^turn", 3);
        Check.faultAt(ONE + "cloth b: " + times("a,", 12) + "^az;", 2);
        Check.faultAt(ONE + "cloth b: " + times("a,", 12) + "^;", 2);
        Check.faultAt(ONE + "cloth b: " + times("a,", 12) + "^", 2);
        right("strip a: " + times("turn(", 8) + "a1" + times(")", 8) + ";");
        right("strip a: " + times("turn(", 8) + "a1) turn(b1" + times(")", 8) + ";");
        right("strip a: " + times("2(", 8) + "a1" + times(")", 8) + ";");
        Check.faultAt("strip a: " + times("turn(", 8) + "turn^(a1" + times(")", 9) + ";", 3);
        Check.faultAt("strip a: " + times("2(", 8) + "turn^(a1" + times(")", 9) + ";", 3);
        Check.faultAt("strip a: " + times("turn(", 8) + "2^(a1" + times(")", 9) + ";", 3);
        Check.faultAt("strip a: " + times("turn(", 8) + "^1(a1" + times(")", 9) + ";", 4);
        Check.faultAt("strip a: " + times("turn(", 8) + "^(", 2);
    }

    private static void numbers() {
        right("strip a: a1 b200 c0003;");
        Check.faultAt("strip a: a^0;", 4);
        Check.faultAt("strip a: a^0000;", 4);
        Check.faultAt("strip a: a^201;", 4);
        Check.faultAt("strip a: a^9999;", 4);
        right("strip a: 2(a1) 50(b1) 0002(c1);");
        Check.faultAt("strip a: ^0(a1);", 4);
        Check.faultAt("strip a: ^1(a1);", 4);
        Check.faultAt("strip a: ^51(a1);", 4);
        Check.faultAt("strip a: ^51 a1;", 4);
        Check.faultAt("strip a: 2(^1 a1;", 4);
        right(ONE + "cloth b: a + 0, a + 50, a+0050;");
        Check.faultAt(ONE + "cloth b: a + ^51;", 4);
        Check.faultAt(ONE + "cloth b: a + ^9999", 4);
    }

    private static void names() {
        Check.faultAt("strip a: a1; strip ^a", 5);
        Check.faultAt("strip a: a1; strip b: a1; strip ^a: a1;", 5);
        Check.faultAt(ONE + "cloth z: a; cloth y: a; cloth ^z: a;", 5);
        right("strip z: a1; cloth z: z;");
        Check.faultAt(ONE + "cloth b: ^b;", 6);
        Check.faultAt(ONE + "cloth b: turn ^z + 99;", 6);
        Check.faultAt(ONE + "cloth b: a; cloth c: a, ^b;", 6);
        Check.faultAt("cloth b: ^b;", 6);
        Check.faultAt("strip a: a1; strip b: b1; cloth c: b, a, ^c;", 6);
    }

    private static void picks() {
        right("strip a: a200 b200; strip b: a200 b200;");
        Check.faultAt("strip a: a200 b200 ^a1;", 7);
        Check.faultAt("strip a: a200 b199 ^a2;", 7);
        right("strip a: 50(a8);");
        right("strip a: a1 7(a57);");
        Check.faultAt("strip a: a1 2(a200^);", 7);
        Check.faultAt("strip a: 50(a8 b1^);", 7);
        Check.faultAt("strip a: 2(2(a101)^);", 7);
        Check.faultAt("strip a: 50(50(a1)^);", 7);
        Check.faultAt("strip a: 2(3(a67)^);", 7);
        Check.faultAt("strip a: 2(3(a134^));", 7);
        Check.faultAt("strip a: a200 2(a100) turn(^b1);", 7);
        Check.faultAt("strip a: a200 turn(a150 ^b51);", 7);
        right("strip a: a200 turn(a150 b50);");
        Check.faultAt("strip a: a200 3(a60 turn(b10)^);", 7);
        Check.faultAt("strip a: " + times("50(", 3) + "a1)^", 2);
        Check.faultAt("strip a: 50(50(50(50(50(50(50(50(a1)^))))))));", 7);
        Check.faultAt("strip a: a1; strip b: a200 b200 ^a1;", 7);
    }

    private static void firstAlongTheText() {
        Check.faultAt("strip a: a^0 b0;", 4);
        Check.faultAt("strip a: a1; strip ^a: a0 A", 5);
        Check.faultAt("strip a: a1 ^A;", 1);
        Check.faultAt("strip a: a200 b200 c^0;", 4);
        Check.faultAt("strip a: a200 b200 ^c1; strip a: A", 7);
        Check.faultAt(ONE + "cloth b: ^z + 99;", 6);
    }

    private static void whatIsRight() {
        right("");
        right("  \n ");
        right("\nstrip\na\n:\na\n1\n;\ncloth\nb\n:\nturn\na\n+\n7\n,\na\n;\n");
        right("strip a:a1b2c3turn(d4)2(e5)f6;cloth b:a+1,turn a+2;");
        right("strip a: 2(turn(3(a1 b1)) c1) turn(2(h1 g1));");
        String filler = times(" ", 800 - 12);
        right("strip a: a1;" + filler);
        Check.fault("strip a: a1 " + filler, 2, 800);
    }
}
