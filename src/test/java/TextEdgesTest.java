/** The document's first terms, sentence by sentence: TEXTS, TOKENS, the language, and what a STRIP and a PART are. */
public final class TextEdgesTest {
    private static final String ONE = "strip a: a1; ";

    public static void main(String[] args) {
        textsHave800Bytes();
        tokensGoAsFarAsTheyCan();
        blanks();
        words();
        numbers();
        signs();
        texts();
        strips();
        pieces();
        cloths();
        parts();
        names();
        colours();
        anyNumberOfTimes();
        turnIsNoName();
        soManyPicks();
        soManyTimes();
        fromItsEndOn();
        blocks();
        twelveStrips();
        sixCloths();
        twelveParts();
        fourHundredPicks();
        beginningsOfParts();
        Check.end();
    }

    private static void textsHave800Bytes() {
        Check.says("TEXTS have at most 800 bytes.");
        String head = "strip a: a1";
        String whole = head + " ".repeat(800 - head.length() - 1) + ";";
        StripCloth x = new StripCloth();
        Check.due("feed of 800 bytes", Check.feed(x, Check.bytes(whole)), 800);
        Check.due("feed of 20 more", x.feed(0x20202020, 0x20202020, 0x20202020, 0x20202020, 0x20202020), -1);
        Check.due(x, "load(801)", x.load(801), -1, 2);
        Check.due(x, "load(800)", x.load(800), 1, 0);
        Check.duePicks(x, 0, "a");
        Check.feed(x, Check.bytes(whole));
        Check.due(x, "load(799)", x.load(799), -1, 4);
        Check.due("fault(0) of 799 bytes", x.fault(0), 2);
        Check.due("fault(1) of 799 bytes", x.fault(1), 799);
        Check.with(head + " ".repeat(799 - head.length() - 1) + ";");
    }

    private static void tokensGoAsFarAsTheyCan() {
        Check.says("TOKENS, as long as they go, between them");
        Check.duePicks(Check.with("strip a: a12;"), 0, "a".repeat(12));
        Check.faultAt("strip a: a1 2^;", 2);
        Check.faultAt("strip a: a1\n2^;", 2);
        Check.faultAt("^stripa: a1;", 2);
        Check.faultAt("^st rip a: a1;", 2);
        Check.faultAt("strip ^ab: a1;", 2);
        Check.faultAt("strip a ^b: a1;", 2);
        Check.faultAt("strip a: ^turna1;", 2);
        Check.faultAt("strip a: ^tu rn(a1);", 2);
        Check.faultAt("strip a: ^aturn(a1);", 2);
        Check.faultAt(ONE + "^clothb: a;", 2);
        Check.faultAt(ONE + "cloth b: ^turna;", 2);
        // a SIGN is one byte, and nothing need stand between a WORD and a NUMBER
        Check.duePicks(Check.with("strip a:a1b2turn(c1d2)2(e1f1)2(2(g1))h1;"), 0, "abbddcefefggggh");
        StripCloth x = Check.with("strip a:a1;strip b:b1;cloth c:a,turn b+12,a+3;");
        Check.due(x, "cloth(0, 1, 1)", x.cloth(0, 1, 1), 12, 0);
    }

    private static void blanks() {
        Check.says("blanks (10, 32):");
        for (String blank : new String[] {" ", "\n", "  ", "\n\n", " \n", "\n "}) {
            String text = "#strip#a#:#a#2#turn#(#b#1#)#;#cloth#c#:#turn#a#+#3#,#a#;#".replace("#", blank);
            StripCloth x = Check.with(text);
            Check.duePicks(x, 0, "aab");
            Check.due(x, "cloth(0, 0, 1)", x.cloth(0, 0, 1), 3, 0);
        }
        for (char none : new char[] {0, 8, 9, 11, 12, 13, 31, 33, 127, 160}) {
            Check.fault(none + "strip a: a1;", 1, 0);
            Check.fault("strip" + none + "a: a1;", 1, 5);
            Check.fault("strip a: a1;" + none, 1, 12);
        }
    }

    private static void words() {
        Check.says("WORDS (small letters),");
        for (int b = 0; b < 256; b++) {
            String text = "strip " + (char) b + ": a1;";
            if (b >= 'a' && b <= 'z') {
                StripCloth x = Check.with(text);
                Check.due(x, "strip(0, 0) of " + text, x.strip(0, 0), b - 'a', 0);
            } else if (b == 10 || b == 32) {
                Check.fault(text, 2, 7);
            } else {
                Check.fault(text, isDigit(b) || isSign(b) ? 2 : 1, 6);
            }
        }
        for (String no : new String[] {"STRIP", "Strip"}) {
            Check.fault(no + " a: a1;", 1, 0);
        }
        Check.faultAt("^striP a: a1;", 2);
        Check.faultAt("strip a: ^A1;", 1);
    }

    private static boolean isDigit(int b) {
        return b >= '0' && b <= '9';
    }

    private static boolean isSign(int b) {
        return "();,+:".indexOf(b) >= 0;
    }

    private static void numbers() {
        Check.says("NUMBERS (1 to 4 digits),");
        for (String three : new String[] {"3", "03", "003", "0003"}) {
            Check.duePicks(Check.with("strip a: a" + three + ";"), 0, "aaa");
            Check.duePicks(Check.with("strip a: " + three + "(a1);"), 0, "aaa");
            StripCloth x = Check.with(ONE + "cloth b: a + " + three + ";");
            Check.due(x, "cloth(0, 0, 1)", x.cloth(0, 0, 1), 3, 0);
        }
        for (String none : new String[] {"00003", "000003", "10000", "99999", "123456789012"}) {
            Check.faultAt("strip a: a^" + none + ";", 1);
            Check.faultAt("strip a: ^" + none + "(a1);", 1);
            Check.faultAt(ONE + "cloth b: a + ^" + none + ";", 1);
        }
        for (int b = 0; b < 256; b++) {
            String text = "strip a: a1" + (char) b + ";";
            if (isDigit(b)) {
                StripCloth x = Check.with(text);
                Check.due(x, "strip(0, 1) of " + text, x.strip(0, 1), 10 + b - '0', 0);
            }
        }
        Check.faultAt("strip a: a1^/;", 1);
        Check.faultAt("strip a: a1^:;", 2);
        Check.faultAt("strip a: a^-1;", 1);
    }

    private static void signs() {
        Check.says("SIGNS ( ) ; , + :");
        for (int b = 0; b < 256; b++) {
            boolean token = isDigit(b) || isSign(b) || b >= 'a' && b <= 'z';
            if (b == 10 || b == 32) {
                Check.with("" + (char) b);
            } else {
                Check.fault("" + (char) b, token ? 2 : 1, 0);
            }
        }
        StripCloth x = Check.with("strip a: 2(a1); cloth b: a, a + 1;");
        Check.due(x, "cloth(0, -1, 1)", x.cloth(0, -1, 1), 2, 0);
        Check.faultAt("strip a^; a1;", 2);
        Check.faultAt("strip a: 2^) a1);", 2);
        Check.faultAt("strip a: 2( a1 ^(;", 2);
        Check.faultAt("strip a: a1^:", 2);
        Check.faultAt(ONE + "cloth b: a ^: a;", 2);
        Check.faultAt(ONE + "cloth b: a ^( a;", 2);
    }

    private static void texts() {
        Check.says("TEXT: {STRIP ;} {CLOTH ;}.");
        Check.with("");
        Check.with("strip a: a1;");
        Check.with("strip a: a1; strip b: a1;");
        StripCloth x = Check.with("strip a: a1; strip b: a1; cloth a: a; cloth b: b;");
        Check.due(x, "cloth(1, 0, 0)", x.cloth(1, 0, 0), 1, 0);
        Check.due(x, "cloth(2, 0, 0)", x.cloth(2, 0, 0), -1, 1);
        Check.faultAt("strip a: a1^", 2);
        Check.faultAt("strip a: a1 ^strip b: a1;", 2);
        Check.faultAt("strip a: a1 ^cloth b: a;", 2);
        Check.faultAt("strip a: a1;^;", 2);
        Check.faultAt(ONE + "cloth b: a^", 2);
        Check.faultAt(ONE + "cloth b: a ^cloth c: a;", 2);
        Check.faultAt(ONE + "cloth b: a;^;", 2);
        Check.faultAt(ONE + "cloth b: a; ^strip b: a1;", 2);
        Check.faultAt("cloth b: ^a; strip a: a1;", 6);
    }

    private static void strips() {
        Check.says("STRIP: strip NAME : PIECE {PIECE}.");
        Check.duePicks(Check.with("strip a: a1;"), 0, "a");
        Check.duePicks(Check.with("strip a: a1 b1;"), 0, "ab");
        Check.duePicks(Check.with("strip a: a1 2(b1) turn(c1 d1);"), 0, "abbdc");
        Check.faultAt("^a: a1;", 2);
        Check.faultAt("strip ^: a1;", 2);
        Check.faultAt("strip a ^a1;", 2);
        Check.faultAt("strip a: ^: a1;", 2);
        Check.faultAt("strip a: ^;", 2);
        Check.faultAt("strip a: a1 ^, b1;", 2);
        Check.faultAt("strip a: a1 ^i1;", 2);
    }

    private static void pieces() {
        Check.says("PIECE: COLOUR NUMBER, or NUMBER ( PIECE {PIECE} ), or turn ( PIECE {PIECE} ).");
        Check.duePicks(Check.with("strip a: b3;"), 0, "bbb");
        Check.duePicks(Check.with("strip a: 3(b1);"), 0, "bbb");
        Check.duePicks(Check.with("strip a: 2(b1 c1 d1);"), 0, "bcdbcd");
        Check.duePicks(Check.with("strip a: turn(b1);"), 0, "b");
        Check.duePicks(Check.with("strip a: turn(b1 c1 d1);"), 0, "dcb");
        for (String head : new String[] {"", "b1 ", "2(", "turn(", "2(b1 "}) {
            Check.faultAt("strip a: " + head + "a ^;", 2);
            Check.faultAt("strip a: " + head + "a ^b1;", 2);
            Check.faultAt("strip a: " + head + "a ^(b1);", 2);
            Check.faultAt("strip a: " + head + "2 ^;", 2);
            Check.faultAt("strip a: " + head + "2 ^a1;", 2);
            Check.faultAt("strip a: " + head + "2 ^3(a1);", 2);
            Check.faultAt("strip a: " + head + "2 ^turn(a1);", 2);
            Check.faultAt("strip a: " + head + "2(^);", 2);
            Check.faultAt("strip a: " + head + "2(a1^;", 2);
            Check.faultAt("strip a: " + head + "2(a1^", 2);
            Check.faultAt("strip a: " + head + "turn ^;", 2);
            Check.faultAt("strip a: " + head + "turn ^a1;", 2);
            Check.faultAt("strip a: " + head + "turn ^2(a1);", 2);
            Check.faultAt("strip a: " + head + "turn(^);", 2);
            Check.faultAt("strip a: " + head + "turn(a1^;", 2);
            Check.faultAt("strip a: " + head + "^(a1);", 2);
        }
        Check.faultAt("strip a: ^);", 2);
        Check.faultAt("strip a: a1^);", 2);
        Check.faultAt("strip a: 2(a1)^);", 2);
        Check.faultAt("strip a: turn(a1)^);", 2);
    }

    private static void cloths() {
        Check.says("CLOTH: cloth NAME : PART {, PART}.");
        for (int parts = 1; parts <= 3; parts++) {
            StripCloth x = Check.with(ONE + "cloth b: a" + ", a".repeat(parts - 1) + ";");
            Check.due(x, "cloth(0, -1, 1)", x.cloth(0, -1, 1), parts, 0);
        }
        Check.faultAt(ONE + "^b: a;", 2);
        Check.faultAt(ONE + "cloth ^: a;", 2);
        Check.faultAt(ONE + "cloth b ^a;", 2);
        Check.faultAt(ONE + "cloth b: ^;", 2);
        Check.faultAt(ONE + "cloth b: ^, a;", 2);
        Check.faultAt(ONE + "cloth b: a, ^;", 2);
        Check.faultAt(ONE + "cloth b: a, ^, a;", 2);
        Check.faultAt(ONE + "cloth b: a ^a;", 2);
        Check.faultAt(ONE + "cloth b: a ^turn a;", 2);
    }

    private static void parts() {
        Check.says("PART: [turn] NAME [+ NUMBER].");
        StripCloth x = Check.with(ONE + "cloth b: a, turn a, a + 7, turn a + 8;");
        for (int p = 0; p < 4; p++) {
            Check.due(x, "cloth(0, " + p + ", 1)", x.cloth(0, p, 1), p < 2 ? 0 : 5 + p, 0);
            Check.due(x, "cloth(0, " + p + ", 2)", x.cloth(0, p, 2), p % 2, 0);
        }
        Check.faultAt(ONE + "cloth b: ^7;", 2);
        Check.faultAt(ONE + "cloth b: ^+ 7;", 2);
        Check.faultAt(ONE + "cloth b: turn ^;", 2);
        Check.faultAt(ONE + "cloth b: turn ^+ 7;", 2);
        Check.faultAt(ONE + "cloth b: turn^(a);", 2);
        Check.faultAt(ONE + "cloth b: turn ^turn a;", 2);
        Check.faultAt(ONE + "cloth b: a ^7;", 2);
        Check.faultAt(ONE + "cloth b: a + ^;", 2);
        Check.faultAt(ONE + "cloth b: a + ^+ 7;", 2);
        Check.faultAt(ONE + "cloth b: a + ^a;", 2);
        Check.faultAt(ONE + "cloth b: a + 7 ^8;", 2);
        Check.faultAt(ONE + "cloth b: a + 7 ^+ 8;", 2);
        Check.faultAt(ONE + "cloth b: a + 7 ^turn;", 2);
        Check.faultAt(ONE + "cloth b: ^2(a);", 2);
    }

    private static void names() {
        Check.says("NAMES, COLOURS: WORDS of one letter;");
        for (char name = 'a'; name <= 'z'; name++) {
            StripCloth x = Check.with("strip " + name + ": a1; cloth " + name + ": " + name + ";");
            Check.due(x, "strip(0, 0)", x.strip(0, 0), name - 'a', 0);
            Check.due(x, "cloth(0, -1, 0)", x.cloth(0, -1, 0), name - 'a', 0);
        }
        Check.faultAt("strip ^aa: a1;", 2);
        Check.faultAt("strip ^az: a1;", 2);
        Check.faultAt("strip a: ^aa1;", 2);
        Check.faultAt("strip a: ^ab1;", 2);
        Check.faultAt(ONE + "cloth ^bb: a;", 2);
        Check.faultAt(ONE + "cloth b: ^aa;", 2);
        Check.faultAt(ONE + "cloth b: turn ^aa;", 2);
        Check.faultAt("strip ^0: a1;", 2);
        Check.faultAt("strip^: a1;", 2);
    }

    private static void colours() {
        Check.says("COLOURS a to h.");
        for (char colour = 'a'; colour <= 'z'; colour++) {
            if (colour <= 'h') {
                Check.duePicks(Check.with("strip z: " + colour + "2;"), 0, ("" + colour).repeat(2));
            } else {
                Check.faultAt("strip z: ^" + colour + "2;", 2);
                Check.faultAt("strip z: 2(a1 ^" + colour + "2);", 2);
            }
        }
    }

    private static void anyNumberOfTimes() {
        Check.says("({ } any number of times, [ ] perhaps.");
        Check.duePicks(Check.with("strip a:" + "a1b1".repeat(190) + ";"), 0, "ab".repeat(190));
        Check.duePicks(Check.with("strip a:turn(" + "a1b1".repeat(190) + ");"), 0, "ba".repeat(190));
        Check.duePicks(Check.with("strip a:2(" + "a1b1".repeat(99) + ");"), 0, "ab".repeat(198));
        // perhaps: with and without turn, with and without a NUMBER
        StripCloth x = Check.with(ONE + "cloth b: a; cloth c: turn a; cloth d: a + 1; cloth e: turn a + 1;");
        for (int c = 0; c < 4; c++) {
            Check.due(x, "cloth(" + c + ", 0, 2)", x.cloth(c, 0, 2), c % 2, 0);
            Check.due(x, "cloth(" + c + ", 0, 1)", x.cloth(c, 0, 1), c / 2, 0);
        }
    }

    private static void turnIsNoName() {
        Check.says("turn is no NAME.)");
        Check.faultAt("strip ^turn: a1;", 2);
        Check.faultAt(ONE + "cloth ^turn: a;", 2);
        Check.faultAt(ONE + "cloth b: turn^;", 2);
        Check.faultAt(ONE + "cloth b: turn ^turn;", 2);
        Check.faultAt(ONE + "cloth b: turn ^, a;", 2);
        Check.with("strip t: a1; cloth t: t, turn t;");
    }

    private static void soManyPicks() {
        Check.says("A STRIP is a row of PICKS, each of a COLOUR: COLOUR NUMBER so many (1 to 200);");
        Check.faultAt("strip a: a^0;", 4);
        for (int n : new int[] {1, 2, 199, 200}) {
            Check.duePicks(Check.with("strip a: c" + n + ";"), 0, "c".repeat(n));
        }
        Check.faultAt("strip a: a^201;", 4);
        Check.faultAt("strip a: a^9999;", 4);
    }

    private static void soManyTimes() {
        Check.says("NUMBER ( ) so many times what is in it (2 to 50);");
        Check.faultAt("strip a: ^0(a1 b1);", 4);
        Check.faultAt("strip a: ^1(a1 b1);", 4);
        for (int n : new int[] {2, 3, 49, 50}) {
            Check.duePicks(Check.with("strip a: d1 " + n + "(a2 b1) c1;"), 0, "d" + "aab".repeat(n) + "c");
        }
        Check.faultAt("strip a: ^51(a1 b1);", 4);
        Check.faultAt("strip a: ^9999(a1 b1);", 4);
        Check.duePicks(Check.with("strip a: 2(a1 3(b1 c1));"), 0, "abcbcbcabcbcbc");
    }

    private static void fromItsEndOn() {
        Check.says("turn ( ) what is in it from its end on.");
        Check.duePicks(Check.with("strip a: turn(a1);"), 0, "a");
        Check.duePicks(Check.with("strip a: turn(a1 b1);"), 0, "ba");
        Check.duePicks(Check.with("strip a: turn(a1 b1 c1);"), 0, "cba");
        Check.duePicks(Check.with("strip a: d2 turn(a1 b2) e1;"), 0, "ddbbae");
        Check.duePicks(Check.with("strip a: turn(a1 turn(b1 c1) d1);"), 0, "dbca");
        Check.duePicks(Check.with("strip a: turn(2(a1 b1) c1);"), 0, "cbaba");
        Check.duePicks(Check.with("strip a: 2(turn(a1 b1) c1);"), 0, "bacbac");
        Check.duePicks(Check.with("strip a: turn(a200 b200);"), 0, "b".repeat(200) + "a".repeat(200));
    }

    /** A letter and how many PICKS: a3 b2 and so on. */
    private static void dueBlocks(String pieces, String want) {
        StripCloth x = Check.with("strip a: " + pieces + ";");
        String[] blocks = want.split(" ");
        Check.due(x, "strip(0, 2) of " + pieces, x.strip(0, 2), blocks.length, 0);
        for (int k = 0; k < blocks.length; k++) {
            Check.due("block(0, " + k + ", 0) of " + pieces, x.block(0, k, 0), blocks[k].charAt(0) - 'a');
            Check.due("block(0, " + k + ", 1) of " + pieces, x.block(0, k, 1), Integer.parseInt(blocks[k].substring(1)));
        }
    }

    private static void blocks() {
        Check.says("BLOCKS of a STRIP: PICKS of one COLOUR one behind the other, as many as can be.");
        dueBlocks("a1", "a1");
        dueBlocks("a1 b1", "a1 b1");
        dueBlocks("a1 a1", "a2");
        dueBlocks("a2 a3 b1", "a5 b1");
        dueBlocks("b1 a2 a3", "b1 a5");
        dueBlocks("a1 b1 a1", "a1 b1 a1");
        dueBlocks("2(a2)", "a4");
        dueBlocks("2(a1 b1 a1)", "a1 b1 a2 b1 a1");
        dueBlocks("a2 turn(b1 a1) b3", "a3 b4");
        dueBlocks("a200 2(a50) turn(a100)", "a400");
        dueBlocks("50(a1 b1)", "a1 b1 ".repeat(50).trim());
        StripCloth x = Check.with("strip a: 4(50(a1 b1));");
        Check.due(x, "strip(0, 2)", x.strip(0, 2), 400, 0);
        Check.due(x, "block(0, 399, 0)", x.block(0, 399, 0), 1, 0);
        Check.due(x, "block(0, 399, 1)", x.block(0, 399, 1), 1, 0);
    }

    private static void twelveStrips() {
        Check.says("At most 12 STRIPS,");
        for (int n : new int[] {11, 12}) {
            StripCloth x = Check.with(Check.strips(n));
            Check.due(x, "strip(" + (n - 1) + ", 0)", x.strip(n - 1, 0), n - 1, 0);
            Check.due(x, "strip(" + n + ", 0)", x.strip(n, 0), -1, 1);
        }
        Check.faultAt(Check.strips(12) + "^strip m: a1;", 3);
    }

    private static void sixCloths() {
        Check.says("6 CLOTHS,");
        for (int n : new int[] {5, 6}) {
            StripCloth x = Check.with(ONE + Check.cloths(n));
            Check.due(x, "cloth(" + (n - 1) + ", -1, 0)", x.cloth(n - 1, -1, 0), n - 1, 0);
            Check.due(x, "cloth(" + n + ", -1, 0)", x.cloth(n, -1, 0), -1, 1);
        }
        Check.faultAt(ONE + Check.cloths(6) + "^cloth g: a;", 3);
        Check.with(Check.strips(12) + Check.cloths(6));
    }

    private static void twelveParts() {
        Check.says("12 PARTS of each;");
        for (int n : new int[] {11, 12}) {
            StripCloth x = Check.with(ONE + "cloth b: a" + ",a".repeat(n - 1) + "; cloth c: a" + ",a".repeat(n - 1) + ";");
            for (int c = 0; c < 2; c++) {
                Check.due(x, "cloth(" + c + ", -1, 1)", x.cloth(c, -1, 1), n, 0);
                Check.due(x, "cloth(" + c + ", " + (n - 1) + ", 0)", x.cloth(c, n - 1, 0), 0, 0);
                Check.due(x, "cloth(" + c + ", " + n + ", 0)", x.cloth(c, n, 0), -1, 1);
            }
        }
        Check.faultAt(ONE + "cloth b: a" + ",a".repeat(11) + ",^a;", 3);
        Check.faultAt(ONE + "cloth c: a; cloth b: a" + ",a".repeat(11) + ",^a;", 3);
    }

    private static void fourHundredPicks() {
        Check.says("400 PICKS of a STRIP.");
        Check.duePicks(Check.with("strip a: a200 b199;"), 0, "a".repeat(200) + "b".repeat(199));
        Check.duePicks(Check.with("strip a: a200 b200;"), 0, "a".repeat(200) + "b".repeat(200));
        Check.faultAt("strip a: a200 b200 ^a1;", 7);
        Check.duePicks(Check.with("strip a: 50(a8);"), 0, "a".repeat(400));
        Check.faultAt("strip a: 50(a8 b1^);", 7);
        // of each STRIP for itself
        StripCloth x = Check.with("strip a: a200 b200; strip b: 2(c200); strip c: d1;");
        Check.due(x, "pick(1, 399)", x.pick(1, 399), 2, 0);
    }

    private static void beginningsOfParts() {
        Check.says("A PART is a STRIP, turned or not, that begins as many PICKS below the top as its NUMBER says"
                + " (0 to 50; 0 if it isn't told).");
        for (int shift : new int[] {0, 1, 49, 50}) {
            StripCloth x = Check.with("strip a: a1 b1; cloth b: a + " + shift + ", turn a + " + shift + ";");
            for (int turned = 0; turned < 2; turned++) {
                String part = "at(0, " + turned + ", ..) of + " + shift;
                Check.due(x, "cloth(0, .., 1) of + " + shift, x.cloth(0, turned, 1), shift, 0);
                Check.due(x, part, x.at(0, turned, shift), turned, 0);
                Check.due(x, part, x.at(0, turned, shift + 1), 1 - turned, 0);
                Check.due(x, part, x.at(0, turned, shift + 2), -1, 0);
                Check.due(x, part, shift == 0 ? -1 : x.at(0, turned, shift - 1), -1, 0);
            }
        }
        StripCloth x = Check.with("strip a: a1 b1; cloth b: a, turn a;");
        Check.due(x, "cloth(0, 0, 1)", x.cloth(0, 0, 1), 0, 0);
        Check.due(x, "at(0, 0, 0)", x.at(0, 0, 0), 0, 0);
        Check.due(x, "cloth(0, 1, 1)", x.cloth(0, 1, 1), 0, 0);
        Check.due(x, "at(0, 1, 0)", x.at(0, 1, 0), 1, 0);
        Check.faultAt(ONE + "cloth b: a + ^51;", 4);
        Check.faultAt(ONE + "cloth b: turn a + ^51;", 4);
        Check.faultAt(ONE + "cloth b: a + ^9999;", 4);
    }
}
