/** Promises 9, 10 and 11: cloth(), at() and seam(). */
public final class ClothsTest {
    private static final String TEXT =
            "strip a: a2 b2 c1; strip b: b1 a3; strip l: 50(a1 b7);"
            + "cloth z: a, turn b + 1, a + 2; cloth a: l, l + 50; cloth b: turn a + 7; cloth c: a, a + 5, a + 4;";

    public static void main(String[] args) {
        ofCloths();
        ofParts();
        heights();
        seams();
        seamsAtTheEdges();
        wrongNumbers();
        Check.end();
    }

    private static void cloth(StripCloth x, int cloth, int part, int... want) {
        for (int what = 0; what < 4; what++) {
            String call = "cloth(" + cloth + ", " + part + ", " + what + ")";
            Check.due(x, call, x.cloth(cloth, part, what), want[what], 0);
        }
    }

    private static void ofCloths() {
        StripCloth x = Check.with(TEXT);
        cloth(x, 0, -1, 25, 3, 7, 2);
        // a stands at every eighth height, in the second PART two lower: both have b at six of eight heights
        cloth(x, 1, -1, 0, 2, 450, -263);
        cloth(x, 2, -1, 1, 1, 12, 0);
        cloth(x, 3, -1, 2, 3, 10, -2);
    }

    private static void ofParts() {
        StripCloth x = Check.with(TEXT);
        cloth(x, 0, 0, 0, 0, 0, 5);
        cloth(x, 0, 1, 1, 1, 1, 5);
        cloth(x, 0, 2, 0, 2, 0, 7);
        cloth(x, 1, 1, 2, 50, 0, 450);
        cloth(x, 2, 0, 0, 7, 1, 12);
    }

    private static void column(StripCloth x, int cloth, int part, String want) {
        for (int height = 0; height < want.length(); height++) {
            int colour = want.charAt(height) == '.' ? -1 : want.charAt(height) - 'a';
            Check.due(x, "at(" + cloth + ", " + part + ", " + height + ")", x.at(cloth, part, height), colour, 0);
        }
    }

    private static void heights() {
        StripCloth x = Check.with(TEXT);
        column(x, 0, 0, "aabbc..");
        column(x, 0, 1, ".aaab..");
        column(x, 0, 2, "..aabbc.");
        column(x, 2, 0, ".......cbbaa..");
        Check.due(x, "at(0, 0, 499)", x.at(0, 0, 499), -1, 0);
        Check.due(x, "at(0, 0, 500)", x.at(0, 0, 500), -1, 2);
        Check.due(x, "at(0, 0, -1)", x.at(0, 0, -1), -1, 2);
        Check.due(x, "at(1, 1, 449)", x.at(1, 1, 449), 1, 0);
        Check.due(x, "at(1, 1, 450)", x.at(1, 1, 450), -1, 0);
    }

    private static void seam(StripCloth x, int cloth, int seam, int alike, int meets) {
        String call = "seam(" + cloth + ", " + seam + ", ";
        Check.due(x, call + "0)", x.seam(cloth, seam, 0), alike, 0);
        Check.due(x, call + "1)", x.seam(cloth, seam, 1), meets, 0);
        Check.due(x, call + "2)", x.seam(cloth, seam, 2), 3 * meets - alike, 0);
    }

    private static void seams() {
        // aabbc and .aaab : alike at 1; both change ahead of 4
        StripCloth x = Check.with(TEXT);
        seam(x, 0, 0, 1, 1);
        // .aaab and ..aabbc : alike at 2, 3, 4; both change ahead of 4
        seam(x, 0, 1, 3, 1);
        // aabbc and .....aabbc : at no height both; then .....aabbc and ....aabbc
        seam(x, 3, 0, 0, 0);
        seam(x, 3, 1, 2, 0);
    }

    private static void seamsAtTheEdges() {
        // a beginning or an end beside a change is no meeting
        StripCloth x = Check.with("strip a: a2 b2; strip b: c2; strip c: c1 d1; strip d: 4(a1 b1);"
                + "cloth a: a, b + 2, a; cloth b: a, b; cloth c: a, c + 1, c + 2; cloth d: d, turn d, d + 1;");
        seam(x, 0, 0, 0, 0);
        seam(x, 0, 1, 0, 0);
        seam(x, 1, 0, 0, 0);
        seam(x, 2, 0, 0, 1);
        seam(x, 2, 1, 0, 0);
        seam(x, 3, 0, 0, 7);
        seam(x, 3, 1, 7, 6);
    }

    private static void wrongNumbers() {
        StripCloth x = Check.with(TEXT);
        for (int wrong : new int[] {-1, 4, 6, Integer.MAX_VALUE, Integer.MIN_VALUE}) {
            Check.due(x, "cloth(" + wrong + ", -1, 0)", x.cloth(wrong, -1, 0), -1, 1);
            Check.due(x, "at(" + wrong + ", 0, 0)", x.at(wrong, 0, 0), -1, 1);
            Check.due(x, "seam(" + wrong + ", 0, 0)", x.seam(wrong, 0, 0), -1, 1);
            Check.due(x, "cloth(0, -1, " + wrong + ")", x.cloth(0, -1, wrong), -1, 2);
            Check.due(x, "cloth(0, 0, " + wrong + ")", x.cloth(0, 0, wrong), -1, 2);
            Check.due(x, "seam(0, 0, " + wrong + ")", x.seam(0, 0, wrong), -1, 2);
            Check.due(x, "at(0, " + wrong + ", 0)", x.at(0, wrong, 0), -1, 1);
            Check.due(x, "seam(0, " + wrong + ", 0)", x.seam(0, wrong, 0), -1, 1);
        }
        for (int wrong : new int[] {-2, 3, 12, Integer.MAX_VALUE, Integer.MIN_VALUE}) {
            Check.due(x, "cloth(0, " + wrong + ", 0)", x.cloth(0, wrong, 0), -1, 1);
        }
        Check.due(x, "seam(0, 2, 0)", x.seam(0, 2, 0), -1, 1);
        Check.due(x, "seam(2, 0, 0)", x.seam(2, 0, 0), -1, 1);
        Check.due(x, "seam(0, 1, 3)", x.seam(0, 1, 3), -1, 2);
    }
}
