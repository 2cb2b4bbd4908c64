/** Promise 20: far(). */
public final class FarTest {
    public static void main(String[] args) {
        pair("a3", "a3", 0);
        pair("a3", "a7", 4);
        pair("a3", "b3", 5);
        pair("a3", "b4", 6);
        pair("a2", "b2", 4);
        pair("a1", "b1", 2);
        pair("a9 b1", "a9", 1);
        pair("a9 b1 a9", "a9 a9", 9 + 10);
        pair("a9 b1 a9", "a9 c1 a9", 2);
        pair("a9 b8 a9", "a9 c8 a9", 5);
        pair("a5 b5 c5 d5", "b5 c5 d5", 5);
        pair("a5 b5 c5 d5", "d5 c5 b5 a5", 20);
        pair("a200 b200", "c1", 200 + 200 + 1);
        pair("a200 b200", "2(c200)", 200 + 0 + 5 + 200);
        pair("4(50(a1 b1))", "4(50(b1 a1))", 2);
        pair("4(50(a1 b1))", "4(50(c1 d1))", 800);
        pair("4(50(a1 b1))", "a200 b200", 400 - 2 + 398);
        pair("2(a1) a1", "a3", 0);
        wrongNumbers();
        Check.end();
    }

    private static void pair(String one, String other, int want) {
        StripCloth x = Check.with("strip a: " + one + "; strip b: " + other + ";");
        String call = "far of " + one + " and " + other;
        Check.due(x, call, x.far(0, 1), want, 0);
        Check.due(x, call + " the other way", x.far(1, 0), want, 0);
        Check.due(x, call + " from itself", x.far(0, 0), 0, 0);
        Check.due(x, call + " from itself", x.far(1, 1), 0, 0);
    }

    private static void wrongNumbers() {
        StripCloth x = Check.with("strip a: a1; strip b: b1;");
        for (int wrong : new int[] {-1, 2, 12, Integer.MAX_VALUE, Integer.MIN_VALUE}) {
            Check.due(x, "far(0, " + wrong + ")", x.far(0, wrong), -1, 1);
            Check.due(x, "far(" + wrong + ", 0)", x.far(wrong, 0), -1, 1);
            Check.due(x, "far(" + wrong + ", " + wrong + ")", x.far(wrong, wrong), -1, 1);
        }
    }
}
