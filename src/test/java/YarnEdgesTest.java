/** The document's third terms and promises 15 to 19, sentence by sentence: YARN, LOTS and DYEING. */
public final class YarnEdgesTest {
    private static final int LEAST = Integer.MIN_VALUE;
    private static final int GREATEST = Integer.MAX_VALUE;

    public static void main(String[] args) {
        widths();
        takeUps();
        roundedUp();
        sixLots();
        coloursOfLots();
        yarnOfLots();
        aLotForEachPart();
        noLotGivesMoreThanItHas();
        eightParts();
        bestDyeing();
        loom();
        yarn();
        lot();
        stock();
        lotsUsed();
        outOfDye();
        Check.end();
    }

    private static void dueYarn(StripCloth x, int strip, int colour, int want) {
        Check.due(x, "yarn(" + strip + ", " + colour + ")", x.yarn(strip, colour), want, 0);
    }

    private static void dueLoom(StripCloth x, int width, int takeUp, boolean want) {
        Check.due(x, "loom(" + width + ", " + takeUp + ")", x.loom(width, takeUp), want, want ? 0 : 2);
    }

    private static void widths() {
        Check.says("YARN of a STRIP for a COLOUR: its PICKS times WIDTH (1 to 500 threads; 100 at first),");
        StripCloth x = Check.with("strip a: a3 b1 a1; strip b: b7;");
        dueYarn(x, 0, 0, 432);
        dueYarn(x, 0, 1, 108);
        dueYarn(x, 0, 2, 0);
        dueYarn(x, 1, 0, 0);
        dueYarn(x, 1, 1, 756);
        dueLoom(x, 0, 0, false);
        dueYarn(x, 0, 0, 432);
        int[] widths = {1, 2, 100, 499, 500};
        for (int width : widths) {
            dueLoom(x, width, 0, true);
            dueYarn(x, 0, 0, 4 * width);
            dueYarn(x, 0, 1, width);
        }
        for (int wrong : new int[] {501, 0, -1, LEAST, GREATEST}) {
            dueLoom(x, wrong, 0, false);
            dueYarn(x, 0, 1, 500);
        }
    }

    private static void takeUps() {
        Check.says("and TAKE-UP (0 to 50 in a hundred of that; 8 at first) more,");
        StripCloth x = Check.with("strip a: a3 b1 a1;");
        dueYarn(x, 0, 1, 108);
        dueLoom(x, 100, -1, false);
        dueYarn(x, 0, 1, 108);
        for (int takeUp : new int[] {0, 1, 8, 49, 50}) {
            dueLoom(x, 100, takeUp, true);
            dueYarn(x, 0, 1, 100 + takeUp);
            dueYarn(x, 0, 0, 400 + 4 * takeUp);
        }
        for (int wrong : new int[] {51, -1, LEAST, GREATEST}) {
            dueLoom(x, 100, wrong, false);
            dueYarn(x, 0, 1, 150);
        }
    }

    private static void roundedUp() {
        Check.says("rounded up.");
        // PICKS, TAKE-UP and, with one thread, YARN: below a whole one, whole, and above it
        int[][] due = {{1, 0, 1}, {1, 1, 2}, {1, 50, 2}, {2, 50, 3}, {3, 50, 5}, {3, 1, 4}, {99, 1, 100}, {100, 1, 101},
            {101, 1, 103}, {49, 2, 50}, {50, 2, 51}, {51, 2, 53}, {200, 0, 200}, {200, 50, 300}, {199, 50, 299}};
        for (int[] d : due) {
            StripCloth x = Check.with("strip a: a" + d[0] + ";");
            dueLoom(x, 1, d[1], true);
            dueYarn(x, 0, 0, d[2]);
            dueYarn(x, 0, 1, 0);
        }
        StripCloth x = Check.with("strip a: 2(a200); strip b: a200 b199;");
        dueLoom(x, 500, 50, true);
        dueYarn(x, 0, 0, 300000);
        dueLoom(x, 499, 49, true);
        // 199 times 499 is 99,301, and 49 in a hundred of that 48,657.49
        dueYarn(x, 1, 1, 99301 + 48658);
    }

    private static void dueLot(StripCloth x, int colour, int yarn, int want, int wantStatus) {
        Check.due(x, "lot(" + colour + ", " + yarn + ")", x.lot(colour, yarn), want, wantStatus);
    }

    private static void sixLots() {
        Check.says("LOTS, at most 6, numbered as they come:");
        StripCloth x = new StripCloth();
        dueLot(x, 8, 0, -1, 2);
        for (int k = 0; k < 6; k++) {
            Check.due(x, "stock(" + k + ", 0)", x.stock(k, 0), false, 1);
            dueLot(x, 7 - k, 10 * k, k, 0);
            Check.due(x, "stock(" + k + ", 0)", x.stock(k, 0), true, 0);
        }
        dueLot(x, 0, 0, -1, 3);
        dueLot(x, 0, 0, -1, 3);
        Check.due(x, "stock(6, 0)", x.stock(6, 0), false, 1);
    }

    /** A CLOTH of all COLOURS, one PICK of each, and one thread without TAKE-UP. */
    private static StripCloth ofAllColours() {
        StripCloth x = Check.with("strip a: a1 b1 c1 d1 e1 f1 g1 h1; cloth a: a;");
        x.loom(1, 0);
        return x;
    }

    private static void dueDye(StripCloth x, int cloth, int colour, int want, int... out) {
        String call = "dye(" + cloth + ", " + colour + ")";
        Check.due(x, call, x.dye(cloth, colour), want, 0);
        Check.dueOut(x, call, out);
    }

    private static void noDye(StripCloth x, int cloth, int colour, int status) {
        Check.due(x, "dye(" + cloth + ", " + colour + ")", x.dye(cloth, colour), -1, status);
    }

    private static void coloursOfLots() {
        Check.says("COLOUR (0 for a to 7 for h)");
        for (int first = 0; first < 8; first++) {
            StripCloth x = ofAllColours();
            dueLot(x, first, 1, 0, 0);
            for (int colour = 0; colour < 8; colour++) {
                if (colour == first) {
                    dueDye(x, 0, colour, 1, 0);
                } else {
                    noDye(x, 0, colour, 6);
                }
            }
        }
        StripCloth x = ofAllColours();
        for (int wrong : new int[] {-1, 8, LEAST, GREATEST}) {
            dueLot(x, wrong, 1, -1, 2);
        }
        dueLot(x, 7, 1, 0, 0);
    }

    private static void yarnOfLots() {
        Check.says("and YARN (0 to 1,000,000).");
        StripCloth x = ofAllColours();
        for (int wrong : new int[] {-1, 1000001, LEAST, GREATEST}) {
            dueLot(x, 0, wrong, -1, 2);
        }
        dueLot(x, 0, 0, 0, 0);
        noDye(x, 0, 0, 6);
        dueLot(x, 0, 1, 1, 0);
        dueDye(x, 0, 0, 1, 1);
        dueLot(x, 0, 999999, 2, 0);
        dueLot(x, 1, 1000000, 3, 0);
        dueDye(x, 0, 1, 1, 3);
        // all of a million can be given: 250 times 4,000
        StripCloth y = Check.with("strip a: a100 a100 a50; strip b: a1; cloth a: a,a,a,a,a,a,a,a; cloth b: a,a,a,a,a,a,a,b;");
        y.loom(500, 0);
        dueLot(y, 0, 1000000, 0, 0);
        dueDye(y, 0, 0, 1, 0, 0, 0, 0, 0, 0, 0, 0);
        Check.due(y, "stock(0, 999999)", y.stock(0, 999999), true, 0);
        noDye(y, 0, 0, 6);
        dueDye(y, 1, 0, 1, 0, 0, 0, 0, 0, 0, 0, 0);
    }

    /** PARTS that need 3, none, 2 (of a; 1 of b) and 5 (of a; 1 of d), and LOTS of a. */
    private static StripCloth house(int... yarns) {
        StripCloth x = Check.with("strip a: a3; strip b: b1 a2; strip c: c1; strip d: a5 d1;"
                + "cloth a: a, c, b, turn d + 3; cloth b: a, c, b; cloth c: c; cloth d: d;");
        x.loom(1, 0);
        for (int yarn : yarns) {
            x.lot(0, yarn);
        }
        return x;
    }

    private static void aLotForEachPart() {
        Check.says("A DYEING of a CLOTH for a COLOUR: to each of its PARTS with that COLOUR a LOT of it,");
        StripCloth x = house();
        noDye(x, 0, 0, 6);
        dueLot(x, 1, 1000, 0, 0);
        noDye(x, 0, 0, 6);
        dueLot(x, 0, 1000, 1, 0);
        dueDye(x, 0, 0, 1, 1, 1, 1);
        dueDye(x, 0, 1, 1, 0);
        noDye(x, 0, 2, 6);
        noDye(x, 0, 3, 6);
        dueLot(x, 3, 1, 2, 0);
        dueDye(x, 0, 3, 1, 2);
        // a PART is dyed from one LOT, not from two
        noDye(house(2, 2, 2, 2, 2, 2), 0, 0, 6);
        noDye(house(4, 4), 3, 0, 6);
        dueDye(house(4, 5), 3, 0, 1, 1);
    }

    private static void noLotGivesMoreThanItHas() {
        Check.says("so that no LOT gives more than it has");
        dueDye(house(5), 1, 0, 1, 0, 0);
        noDye(house(4), 1, 0, 6);
        dueDye(house(3, 2), 1, 0, 2, 0, 1);
        dueDye(house(2, 3), 1, 0, 2, 1, 0);
        noDye(house(3, 1), 1, 0, 6);
        noDye(house(2, 2), 1, 0, 6);
        noDye(house(0), 1, 0, 6);
        dueDye(house(10), 0, 0, 1, 0, 0, 0);
        noDye(house(9), 0, 0, 6);
        dueDye(house(9, 2), 0, 0, 2, 0, 1, 0);
        // what one CLOTH takes is still there for the next one
        StripCloth x = house(5);
        dueDye(x, 1, 0, 1, 0, 0);
        dueDye(x, 1, 0, 1, 0, 0);
        dueDye(x, 3, 0, 1, 0);
        // TAKE-UP is given too, of each PART rounded up by itself: 4, 3
        x.loom(1, 1);
        noDye(x, 1, 0, 6);
        x.stock(0, 6);
        noDye(x, 1, 0, 6);
        x.stock(0, 7);
        dueDye(x, 1, 0, 1, 0, 0);
    }

    private static void eightParts() {
        Check.says("(for at most 8 such PARTS).");
        StripCloth x = Check.with("strip a: a3; strip c: c1; cloth a: a,a,a,a,a,a,a,a; cloth b: a,a,a,a,a,a,a,a,a;"
                + "cloth c: c,a,a,a,a,c,a,a,a,a,c,c; cloth d: a,a,a,a,a,c,a,a,a,a,c,c; cloth e: a,a,a,a,a,a,a;");
        x.loom(1, 0);
        x.lot(0, 24);
        dueDye(x, 4, 0, 1, 0, 0, 0, 0, 0, 0, 0);
        dueDye(x, 0, 0, 1, 0, 0, 0, 0, 0, 0, 0, 0);
        noDye(x, 1, 0, 7);
        dueDye(x, 2, 0, 1, 0, 0, 0, 0, 0, 0, 0, 0);
        noDye(x, 3, 0, 7);
        x.stock(0, 1000000);
        noDye(x, 1, 0, 7);
        // six LOTS for eight PARTS
        for (int yarn : new int[] {3, 3, 3, 3, 6}) {
            x.lot(0, yarn);
        }
        x.stock(0, 6);
        dueDye(x, 0, 0, 6, 0, 0, 1, 2, 3, 4, 5, 5);
        x.stock(4, 2);
        noDye(x, 0, 0, 6);
    }

    private static void bestDyeing() {
        Check.says("BEST: with the fewest LOTS used; of several the first: PART by PART the lesser LOT.");
        dueDye(house(3, 2, 5), 0, 0, 3, 0, 1, 2);
        dueDye(house(3, 2, 5, 10), 0, 0, 1, 3, 3, 3);
        dueDye(house(3, 2, 5, 9), 0, 0, 2, 0, 3, 3);
        dueDye(house(5, 5, 9), 0, 0, 2, 0, 0, 1);
        dueDye(house(5, 4, 9), 0, 0, 2, 0, 0, 2);
        dueDye(house(3, 2, 5, 6), 0, 0, 2, 2, 2, 3);
        dueDye(house(5, 10, 5, 10, 10, 10), 0, 0, 1, 1, 1, 1);
        dueDye(house(10, 10, 10, 10, 10, 10), 0, 0, 1, 0, 0, 0);
        dueDye(house(1, 1, 1, 1, 1, 10), 0, 0, 1, 5, 5, 5);
        dueDye(house(8, 8), 0, 0, 2, 0, 0, 1);
        dueDye(house(7, 8), 0, 0, 2, 0, 0, 1);
        dueDye(house(8, 2), 0, 0, 2, 0, 1, 0);
        dueDye(house(2, 8), 0, 0, 2, 1, 0, 1);
    }

    private static void loom() {
        Check.says("WIDTH and TAKE-UP (2).");
        StripCloth x = Check.with("strip a: a1;");
        int[][] can = {{1, 0, 1}, {500, 50, 750}, {1, 50, 2}, {500, 0, 500}, {200, 25, 250}};
        for (int[] three : can) {
            dueLoom(x, three[0], three[1], true);
            dueYarn(x, 0, 0, three[2]);
        }
        int[][] cannot = {{0, 0}, {501, 50}, {1, -1}, {500, 51}, {0, 51}, {501, -1}, {LEAST, 8}, {GREATEST, 8}, {100, LEAST},
            {100, GREATEST}};
        for (int[] pair : cannot) {
            dueLoom(x, pair[0], pair[1], false);
            dueYarn(x, 0, 0, 250);
        }
    }

    private static void yarn() {
        Check.says("YARN of a STRIP for a COLOUR (1; 2).");
        StripCloth x = Check.with("strip a: a1 h2; strip b: b1;");
        dueYarn(x, 0, 0, 108);
        dueYarn(x, 0, 7, 216);
        dueYarn(x, 0, 6, 0);
        for (int wrong : new int[] {-1, 8, LEAST, GREATEST}) {
            Check.due(x, "yarn(0, " + wrong + ")", x.yarn(0, wrong), -1, 2);
        }
        for (int wrong : new int[] {-1, 2, 12, LEAST, GREATEST}) {
            Check.due(x, "yarn(" + wrong + ", 0)", x.yarn(wrong, 0), -1, 1);
            Check.due(x, "yarn(" + wrong + ", 8)", x.yarn(wrong, 8), -1, 1);
        }
        dueYarn(x, 1, 1, 108);
    }

    private static void lot() {
        Check.says("A LOT more: its number (2; 3).");
        StripCloth x = new StripCloth();
        dueLot(x, -1, 0, -1, 2);
        dueLot(x, 0, -1, -1, 2);
        for (int k = 0; k < 6; k++) {
            dueLot(x, k % 2 * 7, k % 2 * 1000000, k, 0);
            dueLot(x, 8, 0, -1, 2);
            dueLot(x, 0, 1000001, -1, 2);
        }
        dueLot(x, 0, 0, -1, 3);
        dueLot(x, -1, 0, -1, 2);
        dueLot(x, 0, -1, -1, 2);
        dueLot(x, 7, 1000000, -1, 3);
    }

    private static void dueStock(StripCloth x, int lot, int yarn, boolean want, int wantStatus) {
        Check.due(x, "stock(" + lot + ", " + yarn + ")", x.stock(lot, yarn), want, wantStatus);
    }

    private static void stock() {
        Check.says("A LOT has so much YARN from now on (1; 2).");
        StripCloth x = house(5, 5);
        dueDye(x, 1, 0, 1, 0, 0);
        dueStock(x, 0, 4, true, 0);
        dueDye(x, 1, 0, 1, 1, 1);
        dueStock(x, 1, 0, true, 0);
        noDye(x, 1, 0, 6);
        // it has so much, not so much more
        dueStock(x, 0, 4, true, 0);
        noDye(x, 1, 0, 6);
        dueStock(x, 0, 5, true, 0);
        dueDye(x, 1, 0, 1, 0, 0);
        for (int wrong : new int[] {-1, 1000001, LEAST, GREATEST}) {
            dueStock(x, 0, wrong, false, 2);
        }
        for (int wrong : new int[] {-1, 2, 6, LEAST, GREATEST}) {
            dueStock(x, wrong, 0, false, 1);
            dueStock(x, wrong, -1, false, 1);
        }
        dueDye(x, 1, 0, 1, 0, 0);
        dueStock(x, 1, 1000000, true, 0);
        dueStock(x, 0, 0, true, 0);
        dueDye(x, 1, 0, 1, 1, 1);
        noDye(x, 1, 1, 6);
    }

    private static void lotsUsed() {
        Check.says("How many LOTS BEST DYEING of a CLOTH for a COLOUR uses;");
        dueDye(house(10), 0, 0, 1, 0, 0, 0);
        dueDye(house(5, 5), 0, 0, 2, 0, 0, 1);
        dueDye(house(5, 3, 2), 0, 0, 3, 1, 2, 0);
        // LOTS of which nothing is taken are not used
        dueDye(house(0, 1, 10, 10), 0, 0, 1, 2, 2, 2);
    }

    private static void outOfDye() {
        Check.says("OUT is, PART by PART that has it, the LOT (1; 2; 5: no PART has it; 7: more than 8 have it; 6;"
                + " in this order).");
        StripCloth x = Check.with("strip a: a3; strip c: c1; cloth a: c, a, c, a; cloth b: c; cloth c: a,a,a,a,a,a,a,a,a;");
        for (int wrong : new int[] {-1, 3, LEAST, GREATEST}) {
            noDye(x, wrong, 0, 1);
            noDye(x, wrong, 8, 1);
        }
        for (int wrong : new int[] {-1, 8, LEAST, GREATEST}) {
            noDye(x, 0, wrong, 2);
            noDye(x, 1, wrong, 2);
            noDye(x, 2, wrong, 2);
        }
        // without a LOT
        noDye(x, 1, 0, 5);
        noDye(x, 2, 2, 5);
        noDye(x, 2, 0, 7);
        noDye(x, 0, 0, 6);
        Check.dueOut(x, "dyeings that were refused");
        x.lot(2, 1000000);
        x.lot(0, 1000000);
        dueDye(x, 0, 0, 1, 1, 1);
        noDye(x, 1, 0, 5);
        noDye(x, 2, 2, 5);
        noDye(x, 2, 0, 7);
        noDye(x, 0, 8, 2);
        noDye(x, 3, 0, 1);
        Check.dueOut(x, "dyeings that were refused", 1, 1);
        dueDye(x, 1, 2, 1, 0);
        x.stock(1, 0);
        noDye(x, 0, 0, 6);
        noDye(x, 2, 0, 7);
        Check.dueOut(x, "dyeings that were refused", 0);
    }
}
