import java.util.List;

/** The document's FAULTS, sentence by sentence. */
public final class FaultEdgesTest {
    private static final String ONE = "strip a: a1; ";

    // one text of each kind of FAULT, behind a STRIP a
    private static final String[] FAULTY = {"strip b: ^A;", "strip b: ^;", "strip b: " + "turn(".repeat(8) + "turn^(a1",
        "strip b: a^0;", "strip ^a: a1;", "cloth b: ^z;", "strip b: a200 b200 ^c1;"};

    public static void main(String[] args) {
        theFirstAlongTheText();
        ofOneTokenTheLeastKind();
        noTokenBeginsSo();
        itCannotStandThere();
        atTheEnd();
        wordsOfTwoLettersAndMore();
        oneTooMany();
        aNinthOpening();
        numbersTooSmallOrTooGreat();
        namesTold();
        stripsNotTold();
        the401stPickAtItsColour();
        the401stPickAtItsClosing();
        Check.end();
    }

    private static void theFirstAlongTheText() {
        Check.says("FAULTS, the first along the text");
        for (int first = 0; first < FAULTY.length; first++) {
            Check.faultAt(ONE + FAULTY[first], first + 1);
            for (String behind : FAULTY) {
                Check.faultAt(ONE + FAULTY[first] + " " + behind.replace("^", ""), first + 1);
            }
        }
        // within one STRIP and one CLOTH
        Check.faultAt("strip a: a^0 b201 A i1;", 4);
        Check.faultAt("strip a: a200 b200 ^c1 d0 A;", 7);
        Check.faultAt("strip a: ^1(a0 A);", 4);
        Check.faultAt("strip a: 2(a^0)", 4);
        Check.faultAt(ONE + "cloth b: ^z + 51, A;", 6);
        Check.faultAt(ONE + "cloth b: a + ^51, z;", 4);
        Check.faultAt(ONE + "strip ^a: a0;", 5);
        Check.faultAt(ONE + "strip ^a", 5);
        Check.faultAt(ONE + "strip ^a A", 5);
        // a NUMBER with which there are no PICKS: the FAULT is the NUMBER, though its COLOUR is ahead of it
        Check.faultAt("strip a: a200 b200 c^0;", 4);
        Check.faultAt("strip a: a200 b200 c^201;", 4);
        Check.faultAt("strip a: a200 b200 c^00001;", 1);
        Check.faultAt("strip a: a200 b200 c^;", 2);
    }

    private static void ofOneTokenTheLeastKind() {
        Check.says("(of one TOKEN the least kind):");
        // 1 ahead of 2 and 4
        Check.faultAt("^00000", 1);
        Check.faultAt("strip a: a^10000;", 1);
        Check.faultAt("strip a: a1 ^10000;", 1);
        // 2 ahead of 3
        Check.faultAt(Check.strips(12) + "cloth a: a; ^strip m: a1;", 2);
        Check.faultAt(ONE + "cloth b: a" + ",a".repeat(11) + ",^7;", 2);
        Check.faultAt(ONE + "cloth b: a" + ",a".repeat(11) + ",^aa;", 2);
        Check.faultAt("strip a: " + "turn(".repeat(8) + "^(", 2);
        Check.faultAt("strip a: " + "turn(".repeat(8) + "a1 ^(", 2);
        // 2 ahead of 4
        Check.faultAt("strip ^9999: a1;", 2);
        Check.faultAt("strip a: turn ^0;", 2);
        Check.faultAt(ONE + "cloth b: a ^51;", 2);
        // 2 ahead of 5 and 6
        Check.faultAt(ONE + "strip b ^a: a1;", 2);
        Check.faultAt(ONE + "cloth b: a ^z;", 2);
        // 2 ahead of 7
        Check.faultAt("strip a: a200 b200 turn ^c1;", 2);
        Check.faultAt("strip a: 2(a200 b1 turn(^);", 2);
        Check.faultAt("strip a: 2(a200 b1 2^);", 2);
        Check.faultAt("strip a: 2(a200 b1 c^);", 2);
        // 3 ahead of 6
        Check.faultAt(ONE + "cloth b: a" + ",a".repeat(11) + ",^z;", 3);
    }

    private static void noTokenBeginsSo() {
        Check.says("1 no TOKEN begins so (a NUMBER of 5 digits and more: at its first).");
        for (String none : new String[] {"A", "-", "_", "!", ".", "[", "{", "\t", "\r", "\0", "\u007f", "\u0080", "\u00e1", "\u00ff"}) {
            Check.faultAt("^" + none, 1);
            Check.faultAt("strip ^" + none + ": a1;", 1);
            Check.faultAt("strip a^" + none + ": a1;", 1);
            Check.faultAt("strip a: a^" + none + ";", 1);
            Check.faultAt("strip a: a1^" + none + ";", 1);
            Check.faultAt("strip a: a1;^" + none, 1);
            Check.faultAt(ONE + "cloth b: a + ^" + none, 1);
        }
        Check.faultAt("strip a: a^9999;", 4);
        Check.faultAt("strip a: a^99999;", 1);
        Check.faultAt("strip a: a ^00001;", 1);
        Check.faultAt("strip a: ^00002(a1);", 1);
        Check.faultAt(ONE + "cloth b: a + ^00000;", 1);
        Check.faultAt("^1234", 2);
        Check.faultAt("^12345", 1);
        Check.faultAt("^4294967297", 1);
        Check.faultAt("strip a: a^" + "0".repeat(790), 1);
    }

    private static void itCannotStandThere() {
        Check.says("2 it can't stand there");
        String[] tokens = {"strip", "cloth", "turn", "a", "7", "(", ")", ";", ",", "+", ":"};
        standing("", tokens, "strip", "cloth");
        standing("strip ", tokens, "a");
        standing("strip b ", tokens, ":");
        standing("strip b: ", tokens, "turn", "a", "7");
        standing("strip b: a ", tokens, "7");
        standing("strip b: a1 ", tokens, "turn", "a", "7", ";");
        standing("strip b: 2 ", tokens, "(");
        standing("strip b: turn ", tokens, "(");
        standing("strip b: 2( ", tokens, "turn", "a", "7");
        standing("strip b: 2(a1 ", tokens, "turn", "a", "7", ")");
        standing("strip b: 2(a1) ", tokens, "turn", "a", "7", ";");
        standing("strip b: turn(2(a1) ", tokens, "turn", "a", "7", ")");
        standing(ONE, tokens, "strip", "cloth");
        standing(ONE + "cloth ", tokens, "a");
        standing(ONE + "cloth b ", tokens, ":");
        standing(ONE + "cloth b: ", tokens, "turn", "a");
        standing(ONE + "cloth b: turn ", tokens, "a");
        standing(ONE + "cloth b: a ", tokens, "+", ",", ";");
        standing(ONE + "cloth b: a + ", tokens, "7");
        standing(ONE + "cloth b: a + 7 ", tokens, ",", ";");
        standing(ONE + "cloth b: a, ", tokens, "turn", "a");
        standing(ONE + "cloth b: a; ", tokens, "cloth");
    }

    /** Behind that text each TOKEN is a FAULT of kind 2 there, but for those that can stand: of them none is. */
    private static void standing(String text, String[] tokens, String... can) {
        for (String token : tokens) {
            if (List.of(can).contains(token)) {
                StripCloth x = new StripCloth();
                Check.load(x, text + token + " ");
                boolean here = x.fault(0) != 0 && x.fault(1) == text.length();
                Check.due("a FAULT at " + token + " behind " + text, here, false);
            } else {
                Check.faultAt(text + "^" + token + " ", 2);
            }
        }
    }

    private static void atTheEnd() {
        Check.says("(the end: the text's length;");
        String text = "strip a: 2(a1) turn(b2); cloth x: a + 3, turn a;";
        for (int n = 0; n <= text.length(); n++) {
            String head = text.substring(0, n);
            boolean cutWord = head.matches("(.* )?(s|st|str|stri|c|cl|clo|clot|t|tu|tur)");
            for (int blanks = 0; blanks < 3; blanks++) {
                String cut = head + " ".repeat(blanks);
                if (n == 0 || head.trim().endsWith(";")) {
                    Check.with(cut);
                } else if (!cutWord) {
                    Check.fault(cut, 2, cut.length());
                }
            }
        }
        // what is on the tape behind the text is not of it
        StripCloth x = new StripCloth();
        Check.feed(x, Check.bytes("strip a: a1 ; strip b: b1 ;"));
        Check.due(x, "load(12)", x.load(12), -1, 4);
        Check.due("fault(0)", x.fault(0), 2);
        Check.due("fault(1)", x.fault(1), 12);
        Check.fault("strip", 2, 5);
        Check.fault("strip a: a1" + " ".repeat(789), 2, 800);
    }

    private static void wordsOfTwoLettersAndMore() {
        Check.says("a WORD of two letters and more that is no NAME, COLOUR, nor what is told above, too).");
        // a letter less, a letter more, and each letter another one
        String[] words = {"aa", "ab", "zz", "tur", "urn", "turns", "burn", "torn", "tusn", "turm", "stri", "trip", "strips",
            "atrip", "sarip", "staip", "strap", "stria", "clot", "loth", "cloths", "aloth", "cmoth", "clath", "clogh", "clots",
            "stripstrip", "abcdefghijklmnopqrstuvwxyz"};
        for (String word : words) {
            Check.faultAt("^" + word + " a: a1;", 2);
            Check.faultAt("strip ^" + word + ": a1;", 2);
            Check.faultAt("strip a: ^" + word + " 1;", 2);
            Check.faultAt("strip a: ^" + word + "(a1);", 2);
            Check.faultAt("strip a: a1 ^" + word + " 1;", 2);
            Check.faultAt(ONE + "^" + word + " b: a;", 2);
            Check.faultAt(ONE + "cloth ^" + word + ": a;", 2);
            Check.faultAt(ONE + "cloth b: ^" + word + ";", 2);
            Check.faultAt(ONE + "cloth b: ^" + word + " a;", 2);
            Check.faultAt(ONE + "cloth b: turn ^" + word + ";", 2);
        }
        Check.faultAt("^" + "s".repeat(800), 2);
    }

    private static void oneTooMany() {
        Check.says("3 one too many: a STRIP, CLOTH (at its WORD), PART (at its first TOKEN),");
        Check.with(Check.strips(12));
        Check.faultAt(Check.strips(12) + "^strip m:a1;", 3);
        Check.faultAt(Check.strips(12) + "\n ^strip", 3);
        Check.faultAt(Check.strips(12) + "^strip a:a1;", 3);
        Check.faultAt(Check.strips(12) + "^strip A", 3);
        Check.with(ONE + Check.cloths(6));
        Check.faultAt(ONE + Check.cloths(6) + "^cloth g:a;", 3);
        Check.faultAt(ONE + Check.cloths(6) + "\n ^cloth", 3);
        Check.faultAt(ONE + Check.cloths(6) + "^cloth a:a;", 3);
        Check.faultAt(ONE + Check.cloths(6) + "^cloth g:z;", 3);
        String twelve = ONE + "cloth b: turn a + 50" + ",a".repeat(10) + ",turn a + 0";
        Check.with(twelve + ";");
        Check.faultAt(twelve + ", ^a;", 3);
        Check.faultAt(twelve + ", ^turn a;", 3);
        Check.faultAt(twelve + ", ^turn", 3);
        Check.faultAt(twelve + ", ^turn 7", 3);
        Check.faultAt(twelve + ", ^a + 51;", 3);
        Check.faultAt(twelve + " ^a;", 2);
    }

    private static void aNinthOpening() {
        Check.says("a ninth ( within one another (it).");
        String close = ")".repeat(8) + ";";
        for (String open : new String[] {"turn(", "2("}) {
            Check.with("strip a: " + open.repeat(7) + "a1" + ")".repeat(7) + ";");
            Check.with("strip a: " + open.repeat(8) + "a1" + close);
            Check.faultAt("strip a: " + open.repeat(8) + "turn^(a1)" + close, 3);
            Check.faultAt("strip a: " + open.repeat(8) + "2 ^(a1)" + close, 3);
            Check.faultAt("strip a: " + open.repeat(8) + "a1 turn ^(", 3);
        }
        // side by side there may be any number
        Check.with("strip a: " + "turn(a1)".repeat(20) + ";");
        Check.with("strip a: " + "turn(".repeat(8) + "a1" + ")".repeat(8) + "turn(".repeat(8) + "a1" + close);
        Check.with("strip a: " + "turn(".repeat(8) + "a1) turn(b1" + close);
        Check.faultAt("strip a: " + "turn(".repeat(8) + "a1) turn(turn^(b1)" + close, 3);
        Check.with("strip a: " + "turn(".repeat(8) + "a1" + close + "strip b: " + "turn(".repeat(8) + "a1" + close);
        Check.faultAt("strip a: a1; strip b: " + "turn(".repeat(8) + "turn^(a1)" + close, 3);
    }

    private static void numbersTooSmallOrTooGreat() {
        Check.says("4 a NUMBER that is too small or too great.");
        for (String least : new String[] {"0", "00", "0000", "201", "0201", "999", "9999"}) {
            Check.faultAt("strip a: a^" + least + ";", 4);
            Check.faultAt("strip a: 2(b1 a ^" + least + " c1);", 4);
        }
        for (String least : new String[] {"0", "1", "0000", "0001", "51", "0051", "9999"}) {
            Check.faultAt("strip a: ^" + least + "(a1);", 4);
            Check.faultAt("strip a: turn( ^" + least + "(a1));", 4);
            Check.faultAt("strip a: ^" + least + " a1;", 4);
        }
        for (String least : new String[] {"51", "0051", "100", "9999"}) {
            Check.faultAt(ONE + "cloth b: a + ^" + least + ";", 4);
            Check.faultAt(ONE + "cloth b: a, turn a + ^" + least, 4);
        }
        Check.with("strip a: a1 b200 2(c1) 50(d1) e0001 0002(f1); cloth b: a + 0, a + 50, a + 0000, a + 0050;");
    }

    private static void namesTold() {
        Check.says("5 a NAME that a STRIP (or CLOTH) has already (at it).");
        Check.faultAt("strip a: a1; strip ^a: a1;", 5);
        Check.faultAt("strip z: a1; strip b: a1; strip ^z: a1;", 5);
        Check.faultAt(Check.strips(11) + "strip ^k: a1;", 5);
        Check.with(Check.strips(11) + "strip l: a1;");
        Check.faultAt(ONE + "cloth b: a; cloth ^b: a;", 5);
        Check.faultAt(ONE + "cloth z: a; cloth b: a; cloth ^z: a;", 5);
        Check.faultAt(ONE + Check.cloths(5) + "cloth ^e: a;", 5);
        Check.with(ONE + Check.cloths(5) + "cloth f: a;");
        // a STRIP's NAME is no CLOTH's
        Check.with("strip b: a1; cloth b: b;");
        // the NAMES of the TEXT ahead are free again
        StripCloth x = Check.with("strip a: a1; cloth b: a;");
        Check.due(x, "the same TEXT again", Check.load(x, "strip a: a1; cloth b: a;"), 1, 0);
    }

    private static void stripsNotTold() {
        Check.says("6 a STRIP that is not told (at its NAME).");
        Check.faultAt("cloth b: ^a;", 6);
        Check.faultAt(ONE + "cloth b: ^b;", 6);
        Check.faultAt(ONE + "cloth b: turn ^b;", 6);
        Check.faultAt(ONE + "cloth b: a, turn a + 3, ^z + 3;", 6);
        Check.faultAt(ONE + "cloth b: a; cloth c: ^b;", 6);
        Check.with(Check.strips(12) + "cloth z: a, l;");
        Check.faultAt(Check.strips(12) + "cloth z: a, ^m;", 6);
        // what the TEXT ahead told is not told any more
        StripCloth x = Check.with(ONE);
        Check.due(x, "a CLOTH of a STRIP of the TEXT ahead", Check.load(x, "cloth b: a;"), -1, 4);
        Check.due("fault(0)", x.fault(0), 6);
        Check.due("fault(1)", x.fault(1), 9);
    }

    private static void the401stPickAtItsColour() {
        Check.says("7 the 401st PICK (at the COLOUR,");
        Check.with("strip a: a200 b199 c1;");
        Check.faultAt("strip a: a200 b199 ^c2;", 7);
        Check.faultAt("strip a: a200 b199 ^c 200;", 7);
        Check.faultAt("strip a: a200 b200 ^c1;", 7);
        Check.with("strip a: a200 turn(b100 c100);");
        Check.faultAt("strip a: a200 turn(b100 ^c101);", 7);
        Check.with("strip a: 2(a200);");
        Check.faultAt("strip a: 2(a200) ^b1;", 7);
        Check.faultAt("strip a: turn(a200 b200) ^c1;", 7);
        Check.faultAt("strip a: 2(a200 b200 ^c1);", 7);
        Check.faultAt("strip a: a200 b200 2(^c1);", 7);
        Check.faultAt("strip a: a200 b200 turn(turn(^c1));", 7);
        Check.faultAt(ONE + "strip b: a200 b200 ^c1;", 7);
    }

    private static void the401stPickAtItsClosing() {
        Check.says("or at the ) with which there would be so many; what is in ( ) more than once counts there as often).");
        Check.with("strip a: 2(a199 b1);");
        Check.faultAt("strip a: 2(a200 b1^);", 7);
        Check.with("strip a: a2 2(a199);");
        Check.faultAt("strip a: a1 2(a200^);", 7);
        Check.with("strip a: 50(a8);");
        Check.faultAt("strip a: a1 50(a8^);", 7);
        Check.faultAt("strip a: 50(a200^);", 7);
        Check.with("strip a: 2(2(a100));");
        Check.faultAt("strip a: 2(2(a101)^);", 7);
        Check.faultAt("strip a: 2(3(a134^));", 7);
        Check.with("strip a: 3(2(a66)) b4;");
        Check.faultAt("strip a: 3(2(a67)^);", 7);
        Check.faultAt("strip a: 3(2(a66)) ^b5;", 7);
        Check.faultAt("strip a: 50(50(a1)^);", 7);
        Check.faultAt("strip a: " + "50(".repeat(8) + "a1)^" + ")".repeat(7) + ";", 7);
        // what was woven ahead of the ( counts once
        Check.with("strip a: a200 2(b100);");
        Check.faultAt("strip a: a200 2(b101^);", 7);
        Check.with("strip a: 2(a100 2(b50));");
        Check.faultAt("strip a: 2(a101 2(b50)^);", 7);
        // a turn ( ) counts once
        Check.with("strip a: turn(a200 b200);");
        Check.with("strip a: turn(2(turn(a200)));");
        Check.faultAt("strip a: turn(2(turn(a200) b1^));", 7);
    }
}
