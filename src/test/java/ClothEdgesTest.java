/** The document's second terms and promises 9 to 14, sentence by sentence: CLOTHS, SEAMS, BEST SHIFTS, BEST ORDER, OUT. */
public final class ClothEdgesTest {
    private static final int LEAST = Integer.MIN_VALUE;
    private static final int GREATEST = Integer.MAX_VALUE;
    private static final String LONG = "strip l: 4(50(a1 b1));";

    public static void main(String[] args) {
        seamsAreBetweenParts();
        heightsOfParts();
        alike();
        meets();
        values();
        shiftsUpToS();
        firstOfShifts();
        ordersOfEight();
        firstOfOrders();
        clothAsAWhole();
        clothByParts();
        at();
        seam();
        shifts();
        outOfShifts();
        order();
        out();
        Check.end();
    }

    private static void dueSeam(StripCloth x, int cloth, int seam, int alike, int meets) {
        String call = "seam(" + cloth + ", " + seam + ", ";
        Check.due(x, call + "0)", x.seam(cloth, seam, 0), alike, 0);
        Check.due(x, call + "1)", x.seam(cloth, seam, 1), meets, 0);
    }

    private static void noSeam(StripCloth x, int cloth, int seam) {
        Check.due(x, "seam(" + cloth + ", " + seam + ", 0)", x.seam(cloth, seam, 0), -1, 1);
    }

    private static void seamsAreBetweenParts() {
        Check.says("A SEAM of a CLOTH is between PART i and i + 1.");
        StripCloth x = Check.with("strip a: a5; strip b: a3 b2; strip c: b5;"
                + "cloth a: a, b, c; cloth b: a, b; cloth c: a; cloth d: a,a,a,a,a,a,a,a,a,a,a,b;");
        dueSeam(x, 0, 0, 3, 0);
        dueSeam(x, 0, 1, 2, 0);
        dueSeam(x, 1, 0, 3, 0);
        dueSeam(x, 3, 9, 5, 0);
        dueSeam(x, 3, 10, 3, 0);
        noSeam(x, 0, 2);
        noSeam(x, 1, 1);
        noSeam(x, 2, 0);
        noSeam(x, 3, 11);
        for (int cloth = 0; cloth < 4; cloth++) {
            noSeam(x, cloth, -1);
            noSeam(x, cloth, 12);
            noSeam(x, cloth, LEAST);
            noSeam(x, cloth, GREATEST);
        }
    }

    /** A letter for each height from the top on, a dot for none. */
    private static void column(StripCloth x, int part, String want) {
        for (int height = 0; height < want.length(); height++) {
            int colour = want.charAt(height) == '.' ? -1 : want.charAt(height) - 'a';
            Check.due(x, "at(0, " + part + ", " + height + ")", x.at(0, part, height), colour, 0);
        }
    }

    private static void heightsOfParts() {
        Check.says("At a height (from the top on) a PART has the COLOUR of its PICK there, or none"
                + " (above its beginning, behind its end).");
        StripCloth x = Check.with("strip a: a1 b2; strip b: c1; cloth a: a, turn a, a + 1, turn a + 2, b, b + 3;");
        column(x, 0, "abb...");
        column(x, 1, "bba...");
        column(x, 2, ".abb..");
        column(x, 3, "..bba.");
        column(x, 4, "c.....");
        column(x, 5, "...c..");
        StripCloth y = Check.with("strip a: a1 2(b199) c1; cloth a: a + 50, turn a + 50;");
        int[] heights = {0, 49, 50, 51, 448, 449, 450, 499};
        int[] colours = {-1, -1, 0, 1, 1, 2, -1, -1};
        int[] turned = {-1, -1, 2, 1, 1, 0, -1, -1};
        for (int k = 0; k < heights.length; k++) {
            Check.due(y, "at(0, 0, " + heights[k] + ")", y.at(0, 0, heights[k]), colours[k], 0);
            Check.due(y, "at(0, 1, " + heights[k] + ")", y.at(0, 1, heights[k]), turned[k], 0);
        }
    }

    private static void alike() {
        Check.says("ALIKE of a SEAM: at how many heights both have a COLOUR and like ones.");
        StripCloth x = Check.with("strip a: a2; strip b: b2; strip c: a1 b1;"
                + "cloth a: a, a, a + 1, a; cloth b: a, a + 2; cloth c: a + 50, a + 50; cloth d: a, b;"
                + "cloth e: c, c, turn c, b, c + 1;");
        dueSeam(x, 0, 0, 2, 0);
        dueSeam(x, 0, 1, 1, 0);
        dueSeam(x, 0, 2, 1, 0);
        dueSeam(x, 1, 0, 0, 0);
        dueSeam(x, 2, 0, 2, 0);
        dueSeam(x, 3, 0, 0, 0);
        dueSeam(x, 4, 0, 2, 1);
        dueSeam(x, 4, 1, 0, 1);
        dueSeam(x, 4, 2, 1, 0);
        dueSeam(x, 4, 3, 0, 0);
        StripCloth y = Check.with("strip a: a200 a200; cloth a: a, a, a + 50, a; cloth b: a, a + 49;");
        dueSeam(y, 0, 0, 400, 0);
        dueSeam(y, 0, 1, 350, 0);
        dueSeam(y, 0, 2, 350, 0);
        dueSeam(y, 1, 0, 351, 0);
    }

    private static void meets() {
        Check.says("MEETS of a SEAM: at how many heights, ahead of which both have a COLOUR and from which on both have one,"
                + " both change COLOUR.");
        String strips = "strip p: a2 b2; strip q: c2 d2; strip r: c1 d1; strip s: c2; strip t: c4;";
        StripCloth x = Check.with(strips + "cloth a: p, q, p; cloth b: p, q + 1, p; cloth c: p, r + 1, p;"
                + "cloth d: p, r + 2, p; cloth e: p, s, p; cloth f: p, s + 2, p;");
        int[] meets = {1, 0, 1, 0, 0, 0};
        for (int cloth = 0; cloth < 6; cloth++) {
            dueSeam(x, cloth, 0, 0, meets[cloth]);
            dueSeam(x, cloth, 1, 0, meets[cloth]);
        }
        StripCloth y = Check.with(strips + "cloth a: p, t; cloth b: p + 1, r + 2; cloth c: r, turn r, turn r + 1;"
                + "cloth d: p, p; cloth e: p + 49, r + 50; cloth f: p, q + 4;");
        dueSeam(y, 0, 0, 0, 0);
        dueSeam(y, 1, 0, 0, 1);
        dueSeam(y, 2, 0, 0, 1);
        // dc beside .dc : of the height that both have c stands beside d
        dueSeam(y, 2, 1, 0, 0);
        dueSeam(y, 3, 0, 4, 1);
        dueSeam(y, 4, 0, 0, 1);
        dueSeam(y, 5, 0, 0, 0);
        // at every height but the first
        StripCloth z = Check.with(LONG + "cloth a: l, turn l, l; cloth b: l, l; cloth c: l, l + 1, l;");
        dueSeam(z, 0, 0, 0, 399);
        dueSeam(z, 0, 1, 0, 399);
        dueSeam(z, 1, 0, 400, 399);
        dueSeam(z, 2, 0, 0, 398);
        dueSeam(z, 2, 1, 0, 398);
    }

    private static void values() {
        Check.says("VALUE of a SEAM: 3 MEETS, less ALIKE.");
        StripCloth x = Check.with(LONG + "strip p: a2 b2; strip q: c2 d2; strip r: c1 b3; strip s: a200 a200;"
                + "cloth a: p, q; cloth b: p, p; cloth c: p, p + 4; cloth d: l, l; cloth e: s, s; cloth f: l, turn l;");
        int[] values = {3, -1, 0, 3 * 399 - 400, -400, 3 * 399};
        for (int cloth = 0; cloth < 6; cloth++) {
            Check.due(x, "seam(" + cloth + ", 0, 2)", x.seam(cloth, 0, 2), values[cloth], 0);
        }
        // with NONE's number a VALUE is still an answer
        Check.due(x, "seam(1, 0, 2)", x.seam(1, 0, 2), -1, 0);
    }

    private static void dueShifts(StripCloth x, int cloth, int s, int value, int... out) {
        String call = "shifts(" + cloth + ", " + s + ")";
        Check.due(x, call, x.shifts(cloth, s), value, 0);
        Check.dueOut(x, call, out);
    }

    private static void shiftsUpToS() {
        Check.says("BEST SHIFTS of a CLOTH up to a number s (0 to 20): for each PART a shift from 0 to s in place of its own,"
                + " and turned or not, in their order, with the greatest VALUES together;");
        // cd begins 20 below the other one's beginning, where both change
        StripCloth x = Check.with("strip a: a21 b21; strip b: c1 d1; strip p: a2 b2;"
                + "cloth a: a + 50, turn b + 20; cloth b: b + 20, turn a; cloth c: p, p; cloth d: p + 4;");
        dueShifts(x, 0, 20, 3, 0, 20);
        Check.due(x, "shifts(0, 21)", x.shifts(0, 21), -1, 2);
        Check.due(x, "shifts(0, -1)", x.shifts(0, -1), -1, 2);
        Check.due(x, "shifts(0, int's least)", x.shifts(0, LEAST), -1, 2);
        Check.due(x, "shifts(0, int's greatest)", x.shifts(0, GREATEST), -1, 2);
        Check.dueOut(x, "shifts that can't be", 0, 20);
        dueShifts(x, 0, 19, 0, 0, 0);
        dueShifts(x, 0, 0, 0, 0, 0);
        dueShifts(x, 1, 20, 3, 20, 0);
        dueShifts(x, 1, 19, 0, 0, 0);
        dueShifts(x, 2, 0, 3, 0, 100);
        dueShifts(x, 2, 20, 3, 0, 100);
        dueShifts(x, 3, 0, 0, 0);
        dueShifts(x, 3, 20, 0, 0);
        shiftsOfSeveralParts();
        // the CLOTH itself stays
        Check.due(x, "cloth(0, 0, 1)", x.cloth(0, 0, 1), 50, 0);
        Check.due(x, "cloth(0, 1, 2)", x.cloth(0, 1, 2), 1, 0);
    }

    private static void shiftsOfSeveralParts() {
        // both change at 1 if both are turned, else at 3 and 4, 3 and 1, 1 and 4
        StripCloth x = Check.with("strip c: a3 b1; strip d: c4 d1; strip a: a21 b21; strip b: c1 d1; strip e: e18 f18;"
                + "cloth a: c, d; cloth b: a, b, e; cloth c: e, b, a, b;");
        dueShifts(x, 0, 0, 3, 100, 100);
        // all change at 21; each PART is another one's neighbour at another shift
        dueShifts(x, 1, 20, 6, 0, 20, 3);
        dueShifts(x, 2, 20, 9, 3, 20, 0, 20);
        dueShifts(x, 2, 19, 3, 0, 17, 0, 0);
    }

    private static void firstOfShifts() {
        Check.says("of several the first: PART by PART the lesser shift, of like ones not turned ahead.");
        StripCloth x = Check.with("strip a: a2 b5; strip b: c1 d2; strip c: c1 d1 c1; strip d: a1;"
                + "cloth a: a, b; cloth b: b, a; cloth c: turn c, turn c; cloth d: d + 5, d; cloth e: d, d, d;"
                + "cloth f: turn d + 20;");
        // the second PART turned at 0, or not turned at 1
        dueShifts(x, 0, 1, 3, 0, 100);
        // so the first PART
        dueShifts(x, 1, 1, 3, 100, 0);
        // the same turned and not, and the same at 0 and at 1
        dueShifts(x, 2, 1, 3, 0, 0);
        dueShifts(x, 3, 1, 0, 0, 1);
        dueShifts(x, 3, 20, 0, 0, 1);
        dueShifts(x, 4, 1, 0, 0, 1, 0);
        dueShifts(x, 5, 20, 0, 0);
    }

    private static void dueOrder(StripCloth x, int cloth, int value, int... out) {
        String call = "order(" + cloth + ")";
        Check.due(x, call, x.order(cloth), value, 0);
        Check.dueOut(x, call, out);
    }

    private static void ordersOfEight() {
        Check.says("BEST ORDER of a CLOTH of at most 8 PARTS: the PARTS as they are, in any order,"
                + " with the greatest VALUES together;");
        StripCloth x = Check.with("strip a: a1; strip p: a2 b2; cloth a: a,a,a,a,a,a,a; cloth b: a,a,a,a,a,a,a,a;"
                + "cloth c: a,a,a,a,a,a,a,a,a; cloth d: p, p, turn p; cloth e: a + 7, a + 7, a; cloth f: p, p + 2, turn p + 2;");
        dueOrder(x, 0, -6, 0, 1, 2, 3, 4, 5, 6);
        dueOrder(x, 1, -7, 0, 1, 2, 3, 4, 5, 6, 7);
        Check.due(x, "order(2)", x.order(2), -1, 7);
        Check.dueOut(x, "an order of nine", 0, 1, 2, 3, 4, 5, 6, 7);
        dueOrder(x, 3, 6, 0, 2, 1);
        dueOrder(x, 4, 0, 0, 2, 1);
        // aabb beside ..aabb is 0, beside ..bbaa less 2; these two beside each other are 3
        dueOrder(x, 5, 3, 0, 1, 2);
        Check.due(x, "cloth(3, 2, 2)", x.cloth(3, 2, 2), 1, 0);
        // the first PART in the middle, and the last one there
        StripCloth z = Check.with("strip p: a2 b2; cloth a: turn p, p, p; cloth b: p, p, turn p, turn p; cloth c: turn p, p, p,"
                + "turn p, p, p, p, turn p;");
        dueOrder(z, 0, 6, 1, 0, 2);
        dueOrder(z, 1, 9, 0, 2, 1, 3);
        // five that are not turned and three that are: six SEAMS at the most are between one and the other
        dueOrder(z, 2, 6 * 3 - 1, 1, 0, 2, 3, 4, 5, 7, 6);
        StripCloth y = Check.with("strip a: a1; cloth a: a,a,a,a,a,a,a,a,a,a,a,a; cloth b: a; cloth c: a, a;");
        Check.due(y, "order(0)", y.order(0), -1, 7);
        dueOrder(y, 1, 0, 0);
        dueOrder(y, 2, -1, 0, 1);
    }

    private static void firstOfOrders() {
        Check.says("of several the first by the numbers of the PARTS.");
        StripCloth x = Check.with("strip a: a1; strip b: b1; strip c: c1; strip p: a2 b2; strip q: c2 d2;"
                + "cloth a: c, b, a; cloth b: a + 7, a + 7, a + 6, a + 6, a, a, a, a; cloth c: p, turn p; cloth d: p, a, q;"
                + "cloth e: b, b, a, a;");
        dueOrder(x, 0, 0, 0, 1, 2);
        dueOrder(x, 1, 0, 0, 4, 1, 5, 2, 6, 3, 7);
        dueOrder(x, 2, 3, 0, 1);
        // aabb and ccdd beside each other, a beside ccdd: from aabb on, or from a on
        dueOrder(x, 3, 3, 0, 2, 1);
        dueOrder(x, 4, 0, 0, 2, 1, 3);
    }

    private static void clothAsAWhole() {
        Check.says("Of a CLOTH (part NONE), what 0: its NAME, 1: PARTS, 2: the greatest height that a PART has,"
                + " 3: VALUES of all SEAMS together;");
        StripCloth x = Check.with("strip z: 2(a200); strip a: a2; strip b: b4; strip p: a2 b2;"
                + "cloth z: a + 3, b; cloth a: a + 1, b; cloth m: z + 50, a; cloth c: p, turn p, p, p; cloth d: p;"
                + "cloth e: z,z,z,z,z,z,z,z,z,z,z,z;");
        int[][] due = {{25, 2, 5, 0}, {0, 2, 4, 0}, {12, 2, 450, 0}, {2, 4, 4, 5}, {3, 1, 4, 0}, {4, 12, 400, -4400}};
        for (int cloth = 0; cloth < 6; cloth++) {
            for (int what = 0; what < 4; what++) {
                String call = "cloth(" + cloth + ", -1, " + what + ")";
                Check.due(x, call, x.cloth(cloth, -1, what), due[cloth][what], 0);
            }
            for (int wrong : new int[] {-1, 4, LEAST, GREATEST}) {
                Check.due(x, "cloth(" + cloth + ", -1, " + wrong + ")", x.cloth(cloth, -1, wrong), -1, 2);
            }
        }
        for (int wrong : new int[] {-1, 6, LEAST, GREATEST}) {
            Check.due(x, "cloth(" + wrong + ", -1, 0)", x.cloth(wrong, -1, 0), -1, 1);
        }
    }

    private static void clothByParts() {
        Check.says("of a PART, what 0: its STRIP, 1: its shift, 2: whether it is turned (1, 0),"
                + " 3: the height at which it ends (1; 2).");
        StripCloth x = Check.with("strip z: 2(a200); strip a: a2; strip b: b4; cloth z: b, turn z + 50, a + 1, turn a;"
                + "cloth y: a;");
        int[][] due = {{2, 0, 0, 4}, {0, 50, 1, 450}, {1, 1, 0, 3}, {1, 0, 1, 2}};
        for (int part = 0; part < 4; part++) {
            for (int what = 0; what < 4; what++) {
                String call = "cloth(0, " + part + ", " + what + ")";
                Check.due(x, call, x.cloth(0, part, what), due[part][what], 0);
            }
            for (int wrong : new int[] {-1, 4, LEAST, GREATEST}) {
                Check.due(x, "cloth(0, " + part + ", " + wrong + ")", x.cloth(0, part, wrong), -1, 2);
            }
        }
        for (int wrong : new int[] {-2, 4, 12, LEAST, GREATEST}) {
            Check.due(x, "cloth(0, " + wrong + ", 0)", x.cloth(0, wrong, 0), -1, 1);
            Check.due(x, "cloth(0, " + wrong + ", 4)", x.cloth(0, wrong, 4), -1, 1);
        }
        Check.due(x, "cloth(1, 0, 0)", x.cloth(1, 0, 0), 1, 0);
        Check.due(x, "cloth(1, 1, 0)", x.cloth(1, 1, 0), -1, 1);
    }

    private static void at() {
        Check.says("The COLOUR of a PART at a height (0 to 499): NONE with STATUS 0 without one (1; 2).");
        StripCloth x = Check.with("strip a: h1; strip l: 2(h200); cloth a: a, a + 1; cloth b: l + 50;");
        Check.due(x, "at(0, 0, -1)", x.at(0, 0, -1), -1, 2);
        Check.due(x, "at(0, 0, 0)", x.at(0, 0, 0), 7, 0);
        Check.due(x, "at(0, 0, 1)", x.at(0, 0, 1), -1, 0);
        Check.due(x, "at(0, 1, 0)", x.at(0, 1, 0), -1, 0);
        Check.due(x, "at(0, 1, 1)", x.at(0, 1, 1), 7, 0);
        Check.due(x, "at(1, 0, 449)", x.at(1, 0, 449), 7, 0);
        Check.due(x, "at(1, 0, 450)", x.at(1, 0, 450), -1, 0);
        Check.due(x, "at(1, 0, 499)", x.at(1, 0, 499), -1, 0);
        Check.due(x, "at(1, 0, 500)", x.at(1, 0, 500), -1, 2);
        for (int wrong : new int[] {LEAST, GREATEST}) {
            Check.due(x, "at(0, 0, " + wrong + ")", x.at(0, 0, wrong), -1, 2);
        }
        for (int wrong : new int[] {-1, 2, LEAST, GREATEST}) {
            Check.due(x, "at(" + wrong + ", 0, 0)", x.at(wrong, 0, 0), -1, 1);
            Check.due(x, "at(0, " + wrong + ", 0)", x.at(0, wrong, 0), -1, 1);
            Check.due(x, "at(0, " + wrong + ", 500)", x.at(0, wrong, 500), -1, 1);
        }
        Check.due(x, "at(1, 1, 0)", x.at(1, 1, 0), -1, 1);
    }

    private static void seam() {
        Check.says("Of a SEAM, what 0: ALIKE, 1: MEETS, 2: VALUE (1; 2).");
        StripCloth x = Check.with("strip a: a1 b1 a1 b2; cloth a: a, a; cloth b: a, a, turn a + 1;");
        int[] due = {5, 3, 4};
        for (int what = 0; what < 3; what++) {
            Check.due(x, "seam(0, 0, " + what + ")", x.seam(0, 0, what), due[what], 0);
        }
        for (int wrong : new int[] {-1, 3, LEAST, GREATEST}) {
            Check.due(x, "seam(0, 0, " + wrong + ")", x.seam(0, 0, wrong), -1, 2);
            Check.due(x, "seam(0, 1, " + wrong + ")", x.seam(0, 1, wrong), -1, 1);
        }
        for (int wrong : new int[] {-1, 2, LEAST, GREATEST}) {
            Check.due(x, "seam(" + wrong + ", 0, 0)", x.seam(wrong, 0, 0), -1, 1);
            Check.due(x, "seam(" + wrong + ", 0, 3)", x.seam(wrong, 0, 3), -1, 1);
            Check.due(x, "seam(1, " + wrong + ", 0)", x.seam(1, wrong, 0), -1, 1);
        }
        Check.due(x, "seam(1, 1, 0)", x.seam(1, 1, 0), 2, 0);
    }

    private static void shifts() {
        Check.says("VALUES of BEST SHIFTS up to s together;");
        StripCloth x = Check.with(LONG + "strip a: a1; cloth a: a,a,a,a,a,a,a,a,a,a,a,a; cloth b: l,l,l,l,l,l,l,l,l,l,l,l;");
        Check.due(x, "shifts(0, 0)", x.shifts(0, 0), -11, 0);
        Check.due(x, "shifts(0, 1)", x.shifts(0, 1), 0, 0);
        Check.due(x, "shifts(0, 20)", x.shifts(0, 20), 0, 0);
        Check.due(x, "shifts(1, 0)", x.shifts(1, 0), 11 * 3 * 399, 0);
        Check.due(x, "shifts(1, 20)", x.shifts(1, 20), 11 * 3 * 399, 0);
    }

    private static void outOfShifts() {
        Check.says("OUT is, PART by PART, the shift, and 100 more if it is turned (1; 2).");
        StripCloth x = Check.with(LONG + "strip a: a21 b21; strip b: c1 d1 d1;"
                + "cloth a: l,l,l,l,l,l,l,l,l,l,l,l; cloth b: a, b; cloth c: a;");
        dueShifts(x, 0, 0, 11 * 3 * 399, 0, 100, 0, 100, 0, 100, 0, 100, 0, 100, 0, 100);
        // cdd changes at 21 if it begins at 20, ddc if it begins at 19
        dueShifts(x, 1, 19, 3, 0, 119);
        dueShifts(x, 1, 20, 3, 0, 119);
        dueShifts(x, 2, 20, 0, 0);
        for (int wrong : new int[] {-1, 3, LEAST, GREATEST}) {
            Check.due(x, "shifts(" + wrong + ", 0)", x.shifts(wrong, 0), -1, 1);
            Check.due(x, "shifts(" + wrong + ", 21)", x.shifts(wrong, 21), -1, 1);
        }
        for (int wrong : new int[] {-1, 21, LEAST, GREATEST}) {
            Check.due(x, "shifts(1, " + wrong + ")", x.shifts(1, wrong), -1, 2);
        }
        Check.dueOut(x, "calls that were refused", 0);
    }

    private static void order() {
        Check.says("VALUES of BEST ORDER together; OUT is the numbers of the PARTS, one by one (1; 7).");
        StripCloth x = Check.with("strip p: a2 b2; strip b: a4; strip q: c2 d2;"
                + "cloth a: p, b, q; cloth b: b,b,b,b,b,b,b,b; cloth c: b,b,b,b,b,b,b,b,b; cloth d: b;");
        dueOrder(x, 0, 3, 0, 2, 1);
        dueOrder(x, 1, -28, 0, 1, 2, 3, 4, 5, 6, 7);
        dueOrder(x, 3, 0, 0);
        Check.due(x, "order(2)", x.order(2), -1, 7);
        for (int wrong : new int[] {-1, 4, LEAST, GREATEST}) {
            Check.due(x, "order(" + wrong + ")", x.order(wrong), -1, 1);
        }
        Check.dueOut(x, "orders that were refused", 0);
    }

    private static void out() {
        Check.says("Byte k of OUT; NONE if there is none such.");
        StripCloth x = Check.with("strip a: a1; cloth a: a,a,a,a,a,a,a,a,a,a,a,a; cloth b: a; cloth c: a, a;");
        for (int k : new int[] {-1, 0, 1, 12, LEAST, GREATEST}) {
            Check.due("out(" + k + ") ahead of any", x.out(k), -1);
        }
        x.shifts(0, 1);
        for (int k = 0; k < 12; k++) {
            Check.due("out(" + k + ") of twelve", x.out(k), k % 2);
        }
        for (int k : new int[] {-1, 12, 13, LEAST, GREATEST}) {
            Check.due("out(" + k + ") of twelve", x.out(k), -1);
        }
        // a shorter OUT has nothing of the longer one ahead of it
        x.order(2);
        Check.dueOut(x, "order(2)", 0, 1);
        x.shifts(1, 0);
        Check.dueOut(x, "shifts(1, 0)", 0);
        x.lot(0, 1000);
        x.dye(2, 0);
        Check.dueOut(x, "dye(2, 0)", 0, 0);
    }
}
