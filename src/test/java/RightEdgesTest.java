/** The document's fourth terms and promises 20 to 22, sentence by sentence: how FAR STRIPS are, and RIGHTS. */
public final class RightEdgesTest {
    private static final int LEAST = Integer.MIN_VALUE;
    private static final int GREATEST = Integer.MAX_VALUE;

    public static void main(String[] args) {
        leastCost();
        leftOutOrPutIn();
        becomesAnother();
        sixtyRights();
        namesOfRights();
        ranksOfRights();
        daysOfRights();
        toldOnADay();
        bothDaysCounted();
        toldThenOrAhead();
        theOneToldLatest();
        fromThatRankOn();
        whereThereIsNone();
        far();
        right();
        may();
        Check.end();
    }

    /** Both ways, as each step costs as much backwards. */
    private static void dueFar(String one, String other, int want) {
        StripCloth x = Check.with("strip a: " + one + "; strip b: " + other + ";");
        String call = "far of " + one + " and " + other;
        Check.due(x, call, x.far(0, 1), want, 0);
        Check.due(x, call + " the other way", x.far(1, 0), want, 0);
    }

    private static void leastCost() {
        Check.says("FAR is one STRIP from another one: the least cost with which its BLOCKS become the other one's,"
                + " in their order:");
        dueFar("a9", "a9", 0);
        dueFar("a4 a5", "3(a3)", 0);
        // leaving out and putting in costs 4, 5, 6; becoming costs 5, 6, 5
        dueFar("a2", "b2", 4);
        dueFar("a3", "b2", 5);
        dueFar("a3", "b3", 5);
        dueFar("a1", "b1", 2);
        dueFar("a1", "b200", 201);
        dueFar("a200", "b200", 5);
        // in their order
        dueFar("a9 b9", "b9 a9", 10);
        dueFar("a2 b9", "b9 a2", 4);
        dueFar("a9 b9 c9", "b9 c9 a9", 15);
        dueFar("a7 b9 c9", "b9 c9 a7", 14);
        // as many BLOCKS as there can be, and one
        dueFar("4(50(a1 b1))", "4(50(c1 d1))", 800);
        dueFar("4(50(a1 b1))", "4(50(b1 a1))", 2);
        dueFar("4(50(a1 b1))", "a1", 399);
        dueFar("4(50(a1 b1))", "c1", 401);
        dueFar("4(50(a1 b1))", "2(a200)", 399 + 399);
        dueFar("2(a200)", "2(b200)", 5);
    }

    private static void leftOutOrPutIn() {
        Check.says("a BLOCK left out or put in costs its PICKS,");
        dueFar("a9 b1", "a9", 1);
        dueFar("b1 a9", "a9", 1);
        dueFar("a9 b200", "a9", 200);
        dueFar("a9 b3 c8 d7", "a9 c8 d7", 3);
        dueFar("a9 b1 a9", "a9 c1 a9", 2);
        // what is left out does not join what is beside it
        dueFar("a9 b1 a9", "a18", 9 + 1 + 9);
    }

    private static void becomesAnother() {
        Check.says("one that becomes another one the difference of both's PICKS, and 5 if the COLOURS differ.");
        dueFar("a3", "a4", 1);
        dueFar("a1", "a200", 199);
        dueFar("a8", "b8", 5);
        dueFar("a8", "b9", 6);
        dueFar("a8", "h8", 5);
        dueFar("a9 b8 a9", "a9 c8 a9", 5);
        dueFar("a9 b8 a9", "a7 c9 a10", 2 + 6 + 1);
        dueFar("a9 b9", "c9 d9", 10);
    }

    private static void dueRight(StripCloth x, int[] r, boolean want, int wantStatus) {
        String call = "right(" + r[0] + ", " + r[1] + ", " + r[2] + ", " + r[3] + ", " + r[4] + ")";
        Check.due(x, call, x.right(r[0], r[1], r[2], r[3], r[4]), want, wantStatus);
    }

    private static int[] five(int... numbers) {
        return numbers;
    }

    private static void dueMay(StripCloth x, int name, int rank, int day, int known, int want) {
        String call = "may(" + name + ", " + rank + ", " + day + ", " + known + ")";
        Check.due(x, call, x.may(name, rank, day, known), want, want < 0 ? 2 : 0);
    }

    private static void sixtyRights() {
        Check.says("RIGHTS, at most 60:");
        StripCloth x = new StripCloth();
        dueRight(x, five(26, 0, 0, 0, 0), false, 2);
        for (int k = 0; k < 60; k++) {
            dueRight(x, five(0, k < 59 ? 5 : 7, 10, 10, k), true, 0);
        }
        dueMay(x, 0, 4, 10, 58, 0);
        dueMay(x, 0, 5, 10, 58, 1);
        dueMay(x, 0, 6, 10, 59, 0);
        dueMay(x, 0, 7, 10, 59, 1);
        dueRight(x, five(0, 9, 10, 10, 60), false, 3);
        dueRight(x, five(1, 9, 10, 10, 60), false, 3);
        dueMay(x, 0, 6, 10, 60, 0);
        dueMay(x, 0, 7, 10, 60, 1);
        dueMay(x, 1, 0, 10, 60, 1);
    }

    private static void namesOfRights() {
        Check.says("to a NAME (0 for a to 25 for z) of a STRIP");
        for (int name : new int[] {0, 1, 24, 25}) {
            StripCloth x = new StripCloth();
            dueRight(x, five(name, 9, 0, 9, 0), true, 0);
            for (int other = 0; other < 26; other++) {
                dueMay(x, other, 8, 5, 5, other == name ? 0 : 1);
            }
        }
        StripCloth x = new StripCloth();
        for (int wrong : new int[] {-1, 26, LEAST, GREATEST}) {
            dueRight(x, five(wrong, 9, 0, 9, 0), false, 2);
            dueMay(x, wrong, 0, 5, 5, -1);
        }
        // the NAME need not be told, and stays when other STRIPS come
        dueRight(x, five(3, 9, 0, 9, 0), true, 0);
        Check.due(x, "load", Check.load(x, "strip a: a1;"), 1, 0);
        dueMay(x, 3, 8, 5, 5, 0);
        Check.due(x, "load", Check.load(x, "strip d: a1;"), 1, 0);
        dueMay(x, 3, 8, 5, 5, 0);
    }

    private static void ranksOfRights() {
        Check.says("from a RANK on (0 to 9),");
        for (int from = 0; from < 10; from++) {
            StripCloth x = new StripCloth();
            dueRight(x, five(0, from, 0, 9, 0), true, 0);
            for (int rank = 0; rank < 10; rank++) {
                dueMay(x, 0, rank, 5, 5, rank >= from ? 1 : 0);
            }
        }
        StripCloth x = new StripCloth();
        for (int wrong : new int[] {-1, 10, LEAST, GREATEST}) {
            dueRight(x, five(0, wrong, 0, 9, 0), false, 2);
            dueMay(x, 0, wrong, 5, 5, -1);
        }
        dueMay(x, 0, 0, 5, 5, 1);
    }

    private static void daysOfRights() {
        Check.says("from a day to a day (0 to 9,999),");
        StripCloth x = new StripCloth();
        for (int wrong : new int[] {-1, 10000, LEAST, GREATEST}) {
            dueRight(x, five(0, 9, wrong, 9999, 0), false, 2);
            dueRight(x, five(0, 9, 0, wrong, 0), false, 2);
            dueRight(x, five(0, 9, wrong, wrong, 0), false, 2);
            dueMay(x, 0, 0, wrong, 0, -1);
        }
        // the last day may be the first one, not one ahead of it
        dueRight(x, five(0, 9, 6, 5, 0), false, 2);
        dueRight(x, five(0, 9, 9999, 0, 0), false, 2);
        dueMay(x, 0, 0, 5, 0, 1);
        dueMay(x, 0, 0, 6, 0, 1);
        dueRight(x, five(0, 9, 5, 5, 0), true, 0);
        dueMay(x, 0, 8, 4, 0, 1);
        dueMay(x, 0, 8, 5, 0, 0);
        dueMay(x, 0, 8, 6, 0, 1);
        dueRight(x, five(1, 9, 0, 0, 0), true, 0);
        dueMay(x, 1, 8, 0, 0, 0);
        dueMay(x, 1, 8, 1, 0, 1);
        dueRight(x, five(2, 9, 9999, 9999, 0), true, 0);
        dueMay(x, 2, 8, 9998, 0, 1);
        dueMay(x, 2, 8, 9999, 0, 0);
        dueRight(x, five(3, 9, 0, 9999, 0), true, 0);
        dueMay(x, 3, 8, 0, 0, 0);
        dueMay(x, 3, 8, 9999, 0, 0);
    }

    private static void toldOnADay() {
        Check.says("TOLD on a day.");
        StripCloth x = new StripCloth();
        for (int wrong : new int[] {-1, 10000, LEAST, GREATEST}) {
            dueRight(x, five(0, 9, 0, 9, wrong), false, 2);
            dueMay(x, 0, 0, 5, wrong, -1);
        }
        dueMay(x, 0, 8, 5, 9999, 1);
        dueRight(x, five(0, 9, 0, 9, 9999), true, 0);
        dueMay(x, 0, 8, 5, 9998, 1);
        dueMay(x, 0, 8, 5, 9999, 0);
        dueRight(x, five(1, 9, 5000, 5000, 0), true, 0);
        dueMay(x, 1, 8, 5000, 0, 0);
    }

    private static void bothDaysCounted() {
        Check.says("As known on a day a RANK MAY wear it on a day, if of the RIGHTS to that NAME that hold on that day"
                + " (both counted),");
        StripCloth x = new StripCloth();
        dueRight(x, five(0, 9, 10, 20, 5), true, 0);
        int[] days = {0, 9, 10, 11, 19, 20, 21, 9999};
        int[] may = {1, 1, 0, 0, 0, 0, 1, 1};
        for (int k = 0; k < days.length; k++) {
            dueMay(x, 0, 8, days[k], 5, may[k]);
            dueMay(x, 0, 9, days[k], 5, 1);
        }
        // of two, on the days of one of them, of both, of none
        dueRight(x, five(0, 3, 20, 30, 6), true, 0);
        dueMay(x, 0, 3, 19, 6, 0);
        dueMay(x, 0, 3, 20, 6, 1);
        dueMay(x, 0, 2, 20, 6, 0);
        dueMay(x, 0, 2, 30, 6, 0);
        dueMay(x, 0, 2, 31, 6, 1);
        // a RIGHT to another NAME is none to this one
        dueRight(x, five(1, 9, 0, 9999, 7), true, 0);
        dueMay(x, 0, 3, 20, 9, 1);
    }

    private static void toldThenOrAhead() {
        Check.says("TOLD then or ahead,");
        StripCloth x = new StripCloth();
        dueRight(x, five(0, 9, 0, 9999, 50), true, 0);
        dueMay(x, 0, 8, 7, 0, 1);
        dueMay(x, 0, 8, 7, 49, 1);
        dueMay(x, 0, 8, 7, 50, 0);
        dueMay(x, 0, 8, 7, 51, 0);
        dueMay(x, 0, 8, 7, 9999, 0);
        // the day of wearing is another one than the day of knowing
        dueMay(x, 0, 8, 60, 49, 1);
        dueMay(x, 0, 8, 40, 50, 0);
    }

    private static void theOneToldLatest() {
        Check.says("the one TOLD latest (of one day the later call)");
        StripCloth x = new StripCloth();
        dueRight(x, five(0, 8, 0, 99, 50), true, 0);
        dueRight(x, five(0, 2, 0, 99, 60), true, 0);
        dueRight(x, five(0, 5, 0, 99, 55), true, 0);
        int[] known = {49, 50, 54, 55, 59, 60, 61};
        int[] from = {0, 8, 8, 5, 5, 2, 2};
        for (int k = 0; k < known.length; k++) {
            dueMay(x, 0, from[k], 7, known[k], 1);
            if (from[k] > 0) {
                dueMay(x, 0, from[k] - 1, 7, known[k], 0);
            }
        }
        // a later call of the same day, in both directions
        dueRight(x, five(0, 9, 0, 99, 60), true, 0);
        dueMay(x, 0, 8, 7, 60, 0);
        dueRight(x, five(0, 1, 0, 99, 60), true, 0);
        dueMay(x, 0, 1, 7, 60, 1);
        dueMay(x, 0, 0, 7, 60, 0);
        // a later call of a day ahead does not count, nor does one that does not hold on that day
        dueRight(x, five(0, 9, 0, 99, 59), true, 0);
        dueMay(x, 0, 1, 7, 60, 1);
        dueMay(x, 0, 8, 7, 59, 0);
        dueRight(x, five(0, 9, 8, 99, 70), true, 0);
        dueMay(x, 0, 1, 7, 70, 1);
        dueMay(x, 0, 1, 8, 70, 0);
    }

    private static void fromThatRankOn() {
        Check.says("is from that RANK, or a lesser one, on;");
        StripCloth x = new StripCloth();
        dueRight(x, five(0, 5, 0, 9, 0), true, 0);
        dueMay(x, 0, 4, 5, 5, 0);
        dueMay(x, 0, 5, 5, 5, 1);
        dueMay(x, 0, 6, 5, 5, 1);
        dueRight(x, five(1, 0, 0, 9, 0), true, 0);
        dueMay(x, 1, 0, 5, 5, 1);
        dueRight(x, five(2, 9, 0, 9, 0), true, 0);
        dueMay(x, 2, 8, 5, 5, 0);
        dueMay(x, 2, 9, 5, 5, 1);
    }

    private static void whereThereIsNone() {
        Check.says("where there is none, all may.");
        StripCloth x = new StripCloth();
        for (int rank = 0; rank < 10; rank++) {
            dueMay(x, 0, rank, 5, 5, 1);
        }
        dueRight(x, five(1, 9, 5, 5, 5), true, 0);
        dueMay(x, 0, 0, 5, 5, 1);
        dueMay(x, 1, 0, 4, 5, 1);
        dueMay(x, 1, 0, 6, 5, 1);
        dueMay(x, 1, 0, 5, 4, 1);
        dueMay(x, 1, 0, 5, 5, 0);
    }

    private static void far() {
        Check.says("How FAR a STRIP is from another one, or itself (1).");
        StripCloth x = Check.with(Check.strips(11) + "strip l: a3;");
        Check.due(x, "far(0, 11)", x.far(0, 11), 2, 0);
        Check.due(x, "far(11, 0)", x.far(11, 0), 2, 0);
        Check.due(x, "far(11, 11)", x.far(11, 11), 0, 0);
        Check.due(x, "far(0, 0)", x.far(0, 0), 0, 0);
        for (int wrong : new int[] {-1, 12, LEAST, GREATEST}) {
            Check.due(x, "far(" + wrong + ", 0)", x.far(wrong, 0), -1, 1);
            Check.due(x, "far(0, " + wrong + ")", x.far(0, wrong), -1, 1);
            Check.due(x, "far(" + wrong + ", " + wrong + ")", x.far(wrong, wrong), -1, 1);
        }
        // each answer stands for itself, whatever was asked ahead
        StripCloth y = Check.with("strip a: 4(50(a1 b1)); strip b: c7; strip c: c9;");
        Check.due(y, "far(0, 1)", y.far(0, 1), 399 + 8, 0);
        Check.due(y, "far(0, 0)", y.far(0, 0), 0, 0);
        Check.due(y, "far(1, 2)", y.far(1, 2), 2, 0);
    }

    private static void right() {
        Check.says("A RIGHT more (2; 3).");
        StripCloth x = new StripCloth();
        int[] least = {0, 0, 0, 0, 0};
        int[] greatest = {25, 9, 9999, 9999, 9999};
        dueRight(x, least, true, 0);
        dueRight(x, greatest, true, 0);
        for (int k = 0; k < 5; k++) {
            int[] below = least.clone();
            below[k]--;
            dueRight(x, below, false, 2);
            int[] above = greatest.clone();
            above[k]++;
            dueRight(x, above, false, 2);
        }
        for (int k = 2; k < 60; k++) {
            dueRight(x, least, true, 0);
        }
        dueRight(x, least, false, 3);
        dueRight(x, greatest, false, 3);
        for (int k = 0; k < 5; k++) {
            int[] below = least.clone();
            below[k]--;
            dueRight(x, below, false, 2);
        }
        dueRight(x, five(0, 0, 1, 0, 0), false, 2);
    }

    private static void may() {
        Check.says("Whether a RANK MAY wear a NAME on a day, as known on a day: 1 or 0 (2).");
        StripCloth x = new StripCloth();
        dueRight(x, five(25, 9, 9999, 9999, 9999), true, 0);
        dueMay(x, 0, 0, 0, 0, 1);
        dueMay(x, 25, 9, 9999, 9999, 1);
        dueMay(x, 25, 8, 9999, 9999, 0);
        dueMay(x, 24, 8, 9999, 9999, 1);
        dueMay(x, 25, 8, 9998, 9999, 1);
        dueMay(x, 25, 8, 9999, 9998, 1);
        int[] greatest = {25, 9, 9999, 9999};
        for (int k = 0; k < 4; k++) {
            for (int wrong : new int[] {-1, greatest[k] + 1, LEAST, GREATEST}) {
                int[] m = {0, 0, 0, 0};
                m[k] = wrong;
                dueMay(x, m[0], m[1], m[2], m[3], -1);
            }
        }
        // nothing is known otherwise for having been asked
        dueMay(x, 25, 8, 9999, 9999, 0);
    }
}
