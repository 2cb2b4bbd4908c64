/** Promises 21 and 22: right() and may(). */
public final class RightsTest {
    public static void main(String[] args) {
        daysAreBothCounted();
        whatWasKnownThen();
        ofOneDayTheLaterCall();
        eachNameForItself();
        wrongNumbers();
        sixtyAtMost();
        Check.end();
    }

    private static void may(StripCloth x, int name, int rank, int day, int known, int want) {
        String call = "may(" + name + ", " + rank + ", " + day + ", " + known + ")";
        Check.due(x, call, x.may(name, rank, day, known), want, 0);
    }

    private static void daysAreBothCounted() {
        StripCloth x = new StripCloth();
        may(x, 0, 0, 0, 0, 1);
        Check.due(x, "right", x.right(0, 5, 10, 20, 0), true, 0);
        may(x, 0, 4, 9, 9999, 1);
        may(x, 0, 4, 10, 9999, 0);
        may(x, 0, 4, 20, 9999, 0);
        may(x, 0, 4, 21, 9999, 1);
        may(x, 0, 5, 10, 9999, 1);
        may(x, 0, 9, 20, 9999, 1);
        may(x, 0, 0, 15, 0, 0);
    }

    private static void whatWasKnownThen() {
        StripCloth x = new StripCloth();
        x.right(3, 7, 0, 9999, 100);
        x.right(3, 2, 50, 60, 200);
        x.right(3, 9, 55, 55, 150);
        may(x, 3, 0, 55, 99, 1);
        may(x, 3, 6, 55, 100, 0);
        may(x, 3, 7, 55, 149, 1);
        may(x, 3, 8, 55, 150, 0);
        may(x, 3, 9, 55, 199, 1);
        may(x, 3, 2, 55, 200, 1);
        may(x, 3, 1, 55, 200, 0);
        may(x, 3, 6, 61, 200, 0);
        may(x, 3, 7, 49, 200, 1);
        may(x, 3, 6, 49, 9999, 0);
    }

    private static void ofOneDayTheLaterCall() {
        StripCloth x = new StripCloth();
        x.right(25, 8, 5, 5, 9);
        may(x, 25, 7, 5, 9, 0);
        x.right(25, 1, 5, 5, 9);
        may(x, 25, 7, 5, 9, 1);
        may(x, 25, 0, 5, 9, 0);
        x.right(25, 9, 5, 5, 8);
        may(x, 25, 1, 5, 9, 1);
        may(x, 25, 8, 5, 8, 0);
        x.right(25, 0, 5, 5, 9);
        may(x, 25, 0, 5, 9, 1);
        Check.due(x, "load(0)", x.load(0), 0, 0);
        may(x, 25, 8, 5, 8, 0);
    }

    private static void eachNameForItself() {
        StripCloth x = new StripCloth();
        x.right(0, 9, 0, 9999, 0);
        for (int name = 1; name < 26; name++) {
            may(x, name, 0, 5, 5, 1);
        }
        may(x, 0, 8, 5, 5, 0);
    }

    private static void wrongNumbers() {
        StripCloth x = new StripCloth();
        int[] good = {0, 5, 10, 20, 30};
        int[][] wrongs = {{-1, 26}, {-1, 10}, {-1, 21, 10000}, {-1, 9, 10000}, {-1, 10000}};
        for (int which = 0; which < 5; which++) {
            for (int wrong : wrongs[which]) {
                int[] r = good.clone();
                r[which] = wrong;
                Check.due(x, "right with " + wrong + " as number " + which,
                        x.right(r[0], r[1], r[2], r[3], r[4]), false, 2);
            }
        }
        Check.due(x, "right", x.right(0, 0, Integer.MIN_VALUE, Integer.MAX_VALUE, 0), false, 2);
        may(x, 0, 0, 15, 9999, 1);
        int[][] wrongMays = {{-1, 26}, {-1, 10}, {-1, 10000}, {-1, 10000, Integer.MAX_VALUE}};
        for (int which = 0; which < 4; which++) {
            for (int wrong : wrongMays[which]) {
                int[] m = {0, 0, 0, 0};
                m[which] = wrong;
                Check.due(x, "may with " + wrong + " as number " + which, x.may(m[0], m[1], m[2], m[3]), -1, 2);
            }
        }
        Check.due(x, "right at the edges", x.right(25, 9, 0, 9999, 9999), true, 0);
        Check.due(x, "right at the edges", x.right(0, 0, 9999, 9999, 0), true, 0);
        may(x, 25, 8, 9999, 9999, 0);
        may(x, 25, 8, 9999, 9998, 1);
    }

    private static void sixtyAtMost() {
        StripCloth x = new StripCloth();
        for (int k = 0; k < 60; k++) {
            Check.due(x, "right " + k, x.right(k % 26, 9, 5, 5, k), true, 0);
        }
        Check.due(x, "a right too many", x.right(0, 0, 5, 5, 9999), false, 3);
        Check.due(x, "a right too many that can't be", x.right(26, 0, 5, 5, 9999), false, 2);
        may(x, 0, 8, 5, 9999, 0);
    }
}
