/** Promises 6, 7 and 8: strip(), pick() and block(). */
public final class StripsTest {
    public static void main(String[] args) {
        woven("a3 b2 2(c1 a2)", "aaabbcaacaa");
        woven("turn(a3 b2) c4", "bbaaacccc");
        woven("turn(a1 turn(b1 c2) d1)", "dbcca");
        woven("2(a1 turn(b1 2(c1 d1)))", "adcdcbadcdcb");
        woven("3(2(a1) b1)", "aabaabaab");
        woven("a2 a3 2(a1) turn(a1)", "aaaaaaaa");
        woven("turn(a1 b2) turn(c1)", "bbac");
        woven("h1 2(turn(g1 f1) turn(f1 g1))", "hfggffggf");
        woven("a200 b200", "a".repeat(200) + "b".repeat(200));
        woven("4(50(a1 b1))", "ab".repeat(200));
        woven("a200 turn(2(b99 c1))", "a".repeat(200) + "c" + "b".repeat(99) + "c" + "b".repeat(99));
        numbersAndNames();
        wrongNumbers();
        Check.end();
    }

    private static void woven(String pieces, String picks) {
        StripCloth x = Check.with("strip q: " + pieces + ";");
        Check.due(x, "strip(0, 1) of " + pieces, x.strip(0, 1), picks.length(), 0);
        for (int p = 0; p < picks.length(); p++) {
            Check.due("pick(0, " + p + ") of " + pieces, x.pick(0, p), picks.charAt(p) - 'a');
        }
        Check.due(x, "pick behind the last", x.pick(0, picks.length()), -1, 2);
        int block = 0;
        for (int from = 0; from < picks.length(); block++) {
            // an object is promised for 512 calls
            x = block % 200 == 0 ? Check.with("strip q: " + pieces + ";") : x;
            int to = from;
            while (to < picks.length() && picks.charAt(to) == picks.charAt(from)) {
                to++;
            }
            Check.due("colour of block " + block + " of " + pieces, x.block(0, block, 0), picks.charAt(from) - 'a');
            Check.due("picks of block " + block + " of " + pieces, x.block(0, block, 1), to - from);
            from = to;
        }
        Check.due(x, "strip(0, 2) of " + pieces, x.strip(0, 2), block, 0);
        Check.due(x, "block behind the last", x.block(0, block, 0), -1, 2);
    }

    private static void numbersAndNames() {
        StripCloth x = Check.with("strip z: a1; strip a: b2; strip m: c3;");
        int[] names = {25, 0, 12};
        for (int k = 0; k < 3; k++) {
            Check.due(x, "strip(" + k + ", 0)", x.strip(k, 0), names[k], 0);
            Check.due(x, "strip(" + k + ", 1)", x.strip(k, 1), k + 1, 0);
            Check.due(x, "pick(" + k + ", 0)", x.pick(k, 0), k, 0);
        }
    }

    private static void wrongNumbers() {
        StripCloth x = Check.with("strip z: a1 b1;");
        for (int wrong : new int[] {-1, 1, 12, Integer.MAX_VALUE, Integer.MIN_VALUE}) {
            Check.due(x, "strip(" + wrong + ", 0)", x.strip(wrong, 0), -1, 1);
            Check.due(x, "pick(" + wrong + ", 0)", x.pick(wrong, 0), -1, 1);
            Check.due(x, "block(" + wrong + ", 0, 0)", x.block(wrong, 0, 0), -1, 1);
        }
        for (int wrong : new int[] {-1, 3, Integer.MAX_VALUE, Integer.MIN_VALUE}) {
            Check.due(x, "strip(0, " + wrong + ")", x.strip(0, wrong), -1, 2);
            Check.due(x, "pick(0, " + wrong + ")", x.pick(0, wrong), -1, 2);
            Check.due(x, "block(0, " + wrong + ", 0)", x.block(0, wrong, 0), -1, 2);
            Check.due(x, "block(0, 0, " + wrong + ")", x.block(0, 0, wrong), -1, 2);
        }
        Check.due(x, "pick(0, 2)", x.pick(0, 2), -1, 2);
        Check.due(x, "block(0, 2, 0)", x.block(0, 2, 0), -1, 2);
        Check.due(x, "block(0, 0, 2)", x.block(0, 0, 2), -1, 2);
    }
}
