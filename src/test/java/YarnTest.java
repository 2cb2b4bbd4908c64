/** Promises 15 to 19: loom(), yarn(), lot(), stock() and dye(). */
public final class YarnTest {
    public static void main(String[] args) {
        yarnIsRoundedUp();
        wrongLooms();
        lotsAreSix();
        wrongStocks();
        fewestLots();
        firstOfSeveral();
        onlyItsColour();
        orderOfStatus();
        eightParts();
        Check.end();
    }

    private static void yarnIsRoundedUp() {
        StripCloth x = Check.with("strip a: a7 b1 a200; strip b: h200 h200;");
        Check.due(x, "yarn(0, 0)", x.yarn(0, 0), 207 * 108, 0);
        Check.due(x, "yarn(0, 1)", x.yarn(0, 1), 108, 0);
        Check.due(x, "yarn(0, 7)", x.yarn(0, 7), 0, 0);
        Check.due(x, "loom(1, 1)", x.loom(1, 1), true, 0);
        Check.due(x, "yarn(0, 1)", x.yarn(0, 1), 2, 0);
        Check.due(x, "yarn(0, 0)", x.yarn(0, 0), 210, 0);
        Check.due(x, "loom(10, 50)", x.loom(10, 50), true, 0);
        Check.due(x, "yarn(0, 1)", x.yarn(0, 1), 15, 0);
        Check.due(x, "loom(500, 50)", x.loom(500, 50), true, 0);
        Check.due(x, "yarn(1, 7)", x.yarn(1, 7), 300000, 0);
        Check.due(x, "loom(500, 0)", x.loom(500, 0), true, 0);
        Check.due(x, "yarn(1, 7)", x.yarn(1, 7), 200000, 0);
        Check.due(x, "load(0)", x.load(0), 0, 0);
        Check.load(x, "strip a: a1;");
        Check.due("yarn(0, 0) behind another load", x.yarn(0, 0), 500);
    }

    private static void wrongLooms() {
        StripCloth x = Check.with("strip a: a1; strip b: b1;");
        int[][] wrong = {{0, 8}, {501, 8}, {100, -1}, {100, 51}, {Integer.MAX_VALUE, 0}, {1, Integer.MIN_VALUE}};
        for (int[] pair : wrong) {
            Check.due(x, "loom(" + pair[0] + ", " + pair[1] + ")", x.loom(pair[0], pair[1]), false, 2);
        }
        Check.due(x, "yarn(0, 0)", x.yarn(0, 0), 108, 0);
        for (int none : new int[] {-1, 8, Integer.MAX_VALUE, Integer.MIN_VALUE}) {
            Check.due(x, "yarn(0, " + none + ")", x.yarn(0, none), -1, 2);
            Check.due(x, "yarn(" + none + ", 0)", x.yarn(none, 0), -1, 1);
        }
    }

    private static void lotsAreSix() {
        StripCloth x = new StripCloth();
        int[][] wrong = {{-1, 0}, {8, 0}, {0, -1}, {0, 1000001}, {Integer.MIN_VALUE, Integer.MAX_VALUE}};
        for (int[] pair : wrong) {
            Check.due(x, "lot(" + pair[0] + ", " + pair[1] + ")", x.lot(pair[0], pair[1]), -1, 2);
        }
        for (int k = 0; k < 6; k++) {
            Check.due(x, "lot " + k, x.lot(k + 2, k * 200000), k, 0);
        }
        Check.due(x, "a seventh lot", x.lot(0, 0), -1, 3);
        Check.due(x, "a seventh lot that can't be", x.lot(8, 0), -1, 2);
    }

    private static void wrongStocks() {
        StripCloth x = Check.with("strip a: a1; cloth a: a;");
        x.loom(100, 0);
        Check.due(x, "lot(0, 100)", x.lot(0, 100), 0, 0);
        for (int wrong : new int[] {-1, 1, 6, Integer.MAX_VALUE, Integer.MIN_VALUE}) {
            Check.due(x, "stock(" + wrong + ", 0)", x.stock(wrong, 0), false, 1);
        }
        for (int wrong : new int[] {-1, 1000001, Integer.MAX_VALUE, Integer.MIN_VALUE}) {
            Check.due(x, "stock(0, " + wrong + ")", x.stock(0, wrong), false, 2);
        }
        Check.due(x, "dye(0, 0)", x.dye(0, 0), 1, 0);
        Check.due(x, "stock(0, 99)", x.stock(0, 99), true, 0);
        Check.due(x, "dye(0, 0)", x.dye(0, 0), -1, 6);
        Check.due(x, "stock(0, 1000000)", x.stock(0, 1000000), true, 0);
        Check.due(x, "dye(0, 0)", x.dye(0, 0), 1, 0);
        Check.due(x, "stock(0, 0)", x.stock(0, 0), true, 0);
        Check.due(x, "dye(0, 0)", x.dye(0, 0), -1, 6);
    }

    private static StripCloth house(int... yarns) {
        StripCloth x = Check.with("strip a: a3; strip b: b1 a2; strip c: c1; strip d: a5 d1;"
                + "cloth a: a, c, b, turn d + 3; cloth b: c; cloth c: a,a,a,a,a,a,a,a,a; cloth d: a,a,a,a,a,a,a,c,a;");
        x.loom(1, 0);
        for (int yarn : yarns) {
            x.lot(0, yarn);
        }
        return x;
    }

    private static void fewestLots() {
        StripCloth x = house(5, 5, 10);
        Check.due(x, "dye(0, 0)", x.dye(0, 0), 1, 0);
        Check.dueOut(x, "dye(0, 0)", 2, 2, 2);
        x.stock(2, 9);
        Check.due(x, "dye(0, 0)", x.dye(0, 0), 2, 0);
        Check.dueOut(x, "dye(0, 0)", 0, 0, 1);
        x.stock(1, 4);
        Check.due(x, "dye(0, 0)", x.dye(0, 0), 2, 0);
        Check.dueOut(x, "dye(0, 0)", 0, 0, 2);
        // three LOTS would come first by their numbers, yet two are fewer
        StripCloth y = house(3, 2, 5, 7);
        Check.due(y, "dye(0, 0)", y.dye(0, 0), 2, 0);
        Check.dueOut(y, "dye(0, 0)", 0, 3, 3);
        StripCloth z = house(3, 2, 5, 6);
        Check.due(z, "dye(0, 0)", z.dye(0, 0), 2, 0);
        Check.dueOut(z, "dye(0, 0)", 2, 2, 3);
    }

    private static void firstOfSeveral() {
        StripCloth x = house(5, 10, 5, 10, 10, 10);
        Check.due(x, "dye(0, 0)", x.dye(0, 0), 1, 0);
        Check.dueOut(x, "dye(0, 0)", 1, 1, 1);
        StripCloth y = house(2, 3, 8, 7);
        Check.due(y, "dye(0, 0)", y.dye(0, 0), 2, 0);
        Check.dueOut(y, "dye(0, 0)", 1, 2, 2);
    }

    private static void onlyItsColour() {
        StripCloth x = house(9);
        x.lot(1, 1000);
        x.lot(0, 1);
        Check.due(x, "dye(0, 0)", x.dye(0, 0), -1, 6);
        Check.dueOut(x, "no dyeing");
        Check.due(x, "dye(0, 1)", x.dye(0, 1), 1, 0);
        Check.dueOut(x, "dye(0, 1)", 1);
        Check.due(x, "dye(0, 3)", x.dye(0, 3), -1, 6);
        Check.dueOut(x, "dye(0, 1)", 1);
        x.lot(3, 1);
        Check.due(x, "dye(0, 3)", x.dye(0, 3), 1, 0);
        Check.dueOut(x, "dye(0, 3)", 3);
    }

    private static void orderOfStatus() {
        StripCloth x = house(1000);
        for (int wrong : new int[] {-1, 8, Integer.MAX_VALUE, Integer.MIN_VALUE}) {
            Check.due(x, "dye(" + wrong + ", " + wrong + ")", x.dye(wrong, wrong), -1, 1);
            Check.due(x, "dye(0, " + wrong + ")", x.dye(0, wrong), -1, 2);
        }
        Check.due(x, "dye(1, 0)", x.dye(1, 0), -1, 5);
        Check.due(x, "dye(2, 1)", x.dye(2, 1), -1, 5);
        Check.due(x, "dye(2, 0)", x.dye(2, 0), -1, 7);
        Check.due(x, "dye(3, 0)", x.dye(3, 0), 1, 0);
        Check.due(x, "dye(3, 2)", x.dye(3, 2), -1, 6);
        x.stock(0, 0);
        Check.due(x, "dye(2, 0)", x.dye(2, 0), -1, 7);
    }

    private static void eightParts() {
        StripCloth x = house(6, 6, 3, 3, 3, 3);
        Check.due(x, "dye(3, 0)", x.dye(3, 0), 6, 0);
        Check.dueOut(x, "dye(3, 0)", 0, 0, 1, 1, 2, 3, 4, 5);
        x.stock(5, 2);
        Check.due(x, "dye(3, 0)", x.dye(3, 0), -1, 6);
        x.stock(5, 24);
        Check.due(x, "dye(3, 0)", x.dye(3, 0), 1, 0);
        Check.dueOut(x, "dye(3, 0)", 5, 5, 5, 5, 5, 5, 5, 5);
        x.stock(5, 20);
        Check.due(x, "dye(3, 0)", x.dye(3, 0), 2, 0);
        Check.dueOut(x, "dye(3, 0)", 0, 0, 5, 5, 5, 5, 5, 5);
    }
}
