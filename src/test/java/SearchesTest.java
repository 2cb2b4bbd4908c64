/** Promises 12, 13 and 14: shifts(), order() and out(), told by hand; OracleTest compares them with a plain search. */
public final class SearchesTest {
    public static void main(String[] args) {
        shiftsOfOnePart();
        shiftsThatAreBest();
        shiftsOfManyParts();
        ordersThatAreBest();
        ordersOfManyParts();
        wrongCallsKeepOut();
        Check.end();
    }

    private static void shiftsOfOnePart() {
        StripCloth x = Check.with("strip a: a2 b2; cloth a: turn a + 9;");
        Check.due(x, "shifts(0, 20)", x.shifts(0, 20), 0, 0);
        Check.dueOut(x, "shifts(0, 20)", 0);
        Check.due(x, "order(0)", x.order(0), 0, 0);
        Check.dueOut(x, "order(0)", 0);
    }

    private static void shiftsThatAreBest() {
        // aabb beside aabb: as it is 3 less 4; turned 3 less 0
        StripCloth x = Check.with("strip a: a2 b2; strip b: c1 d1; cloth a: a + 30, a; cloth b: b, a; cloth c: a, b;");
        Check.due(x, "shifts(0, 0)", x.shifts(0, 0), 3, 0);
        Check.dueOut(x, "shifts(0, 0)", 0, 100);
        Check.due(x, "shifts(0, 20)", x.shifts(0, 20), 3, 0);
        Check.dueOut(x, "shifts(0, 20)", 0, 100);
        // the change of cd comes one PICK too early, so it begins one PICK lower
        Check.due(x, "shifts(1, 0)", x.shifts(1, 0), 0, 0);
        Check.dueOut(x, "shifts(1, 0)", 0, 0);
        Check.due(x, "shifts(1, 1)", x.shifts(1, 1), 3, 0);
        Check.dueOut(x, "shifts(1, 1)", 1, 0);
        Check.due(x, "shifts(2, 1)", x.shifts(2, 1), 3, 0);
        Check.dueOut(x, "shifts(2, 1)", 0, 1);
        Check.due("cloth(0, 0, 1)", x.cloth(0, 0, 1), 30);
    }

    private static void shiftsOfManyParts() {
        StripCloth x = Check.with("strip a: a1; cloth a: a,a,a,a,a,a,a,a,a,a,a,a;");
        Check.due(x, "shifts(0, 0)", x.shifts(0, 0), -11, 0);
        Check.dueOut(x, "shifts(0, 0)", 0, 0, 0, 0, 0, 0, 0, 0, 0, 0, 0, 0);
        Check.due(x, "shifts(0, 20)", x.shifts(0, 20), 0, 0);
        Check.dueOut(x, "shifts(0, 20)", 0, 1, 0, 1, 0, 1, 0, 1, 0, 1, 0, 1);
        StripCloth y = Check.with("strip a: 4(50(a1 b1)); cloth a: a,a,a,a,a,a,a,a,a,a,a,a;");
        Check.due(y, "shifts(0, 20)", y.shifts(0, 20), 11 * 3 * 399, 0);
        Check.dueOut(y, "shifts(0, 20)", 0, 100, 0, 100, 0, 100, 0, 100, 0, 100, 0, 100);
    }

    private static void ordersThatAreBest() {
        StripCloth x = Check.with("strip a: a2 b2; strip b: a4; strip c: c2 d2;"
                + "cloth a: a, b, c; cloth b: b, b, b; cloth c: b, a, turn a, c; cloth d: b, b, a + 40;");
        // a beside c is 3, b beside a is less 2, b beside c is 0
        Check.due(x, "order(0)", x.order(0), 3, 0);
        Check.dueOut(x, "order(0)", 0, 2, 1);
        Check.due(x, "order(1)", x.order(1), -8, 0);
        Check.dueOut(x, "order(1)", 0, 1, 2);
        Check.due(x, "order(2)", x.order(2), 6, 0);
        Check.dueOut(x, "order(2)", 0, 3, 1, 2);
        Check.due(x, "order(3)", x.order(3), 0, 0);
        Check.dueOut(x, "order(3)", 0, 2, 1);
        Check.due("cloth(0, -1, 3)", x.cloth(0, -1, 3), -2);
    }

    private static void ordersOfManyParts() {
        StripCloth x = Check.with("strip a: a1; cloth a: a,a,a,a,a,a,a,a; cloth b: a,a,a,a,a,a,a,a,a;"
                + "cloth c: a+7,a+7,a+6,a+6,a,a,a,a;");
        Check.due(x, "order(0)", x.order(0), -7, 0);
        Check.dueOut(x, "order(0)", 0, 1, 2, 3, 4, 5, 6, 7);
        Check.due(x, "order(1)", x.order(1), -1, 7);
        Check.dueOut(x, "order(1)", 0, 1, 2, 3, 4, 5, 6, 7);
        Check.due(x, "order(2)", x.order(2), 0, 0);
        Check.dueOut(x, "order(2)", 0, 4, 1, 5, 2, 6, 3, 7);
    }

    private static void wrongCallsKeepOut() {
        StripCloth x = Check.with("strip a: a1; strip b: b1; cloth a: a, b; cloth b: a,a,a,a,a,a,a,a,a;");
        Check.due(x, "shifts(0, 2)", x.shifts(0, 2), 0, 0);
        Check.dueOut(x, "shifts(0, 2)", 0, 0);
        Check.due(x, "order(0)", x.order(0), 0, 0);
        Check.dueOut(x, "order(0)", 0, 1);
        for (int wrong : new int[] {-1, 21, Integer.MAX_VALUE, Integer.MIN_VALUE}) {
            Check.due(x, "shifts(1, " + wrong + ")", x.shifts(1, wrong), -1, 2);
            Check.due(x, "shifts(" + wrong + ", 0)", x.shifts(wrong, 0), -1, 1);
            Check.due(x, "order(" + wrong + ")", x.order(wrong), -1, 1);
            Check.due("out(" + wrong + ")", x.out(wrong), -1);
        }
        Check.due(x, "order(1)", x.order(1), -1, 7);
        Check.due(x, "dye(0, 0)", x.dye(0, 0), -1, 6);
        Check.due(x, "load(0)", x.load(0), 0, 0);
        Check.dueOut(x, "calls that went wrong", 0, 1);
    }
}
