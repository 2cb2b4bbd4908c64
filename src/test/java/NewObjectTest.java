/** Promises 1 and 2: a new object, and status(). */
public final class NewObjectTest {
    public static void main(String[] args) {
        StripCloth x = new StripCloth();
        Check.due("NONE", StripCloth.NONE, -1);
        Check.due("status()", x.status(), 0);
        Check.dueOut(x, "new");
        Check.due("fault(0)", x.fault(0), -1);
        Check.due("fault(1)", x.fault(1), -1);
        Check.due(x, "strip(0, 0)", x.strip(0, 0), -1, 1);
        Check.due(x, "cloth(0, -1, 0)", x.cloth(0, -1, 0), -1, 1);
        Check.due(x, "stock(0, 0)", x.stock(0, 0), false, 1);
        Check.due(x, "load(1)", x.load(1), -1, 2);
        Check.due(x, "load(0)", x.load(0), 0, 0);
        callsWithoutStatus();
        theFirstStatusThatHolds();
        whereAllThatCanBeIsTold();
        Check.end();
    }

    private static void whereAllThatCanBeIsTold() {
        StringBuilder text = new StringBuilder();
        for (char name = 'a'; name <= 'l'; name++) {
            text.append("strip ").append(name).append(":4(50(a1b1));");
        }
        for (char name = 'a'; name <= 'f'; name++) {
            text.append("cloth ").append(name).append(":a,a,a,a,a,a,a,a,a,a,a,a;");
        }
        StripCloth x = Check.with(text.toString());
        Check.due(x, "pick(11, 399)", x.pick(11, 399), 1, 0);
        Check.due(x, "pick(11, 400)", x.pick(11, 400), -1, 2);
        Check.due(x, "block(11, 399, 1)", x.block(11, 399, 1), 1, 0);
        Check.due(x, "block(11, 400, 1)", x.block(11, 400, 1), -1, 2);
        Check.due(x, "strip(12, 0)", x.strip(12, 0), -1, 1);
        Check.due(x, "cloth(5, 11, 3)", x.cloth(5, 11, 3), 400, 0);
        Check.due(x, "cloth(5, 12, 3)", x.cloth(5, 12, 3), -1, 1);
        Check.due(x, "cloth(6, 0, 3)", x.cloth(6, 0, 3), -1, 1);
        Check.due(x, "at(5, 12, 0)", x.at(5, 12, 0), -1, 1);
        Check.due(x, "seam(5, 10, 0)", x.seam(5, 10, 0), 400, 0);
        Check.due(x, "seam(5, 11, 0)", x.seam(5, 11, 0), -1, 1);
        Check.due(x, "far(11, 12)", x.far(11, 12), -1, 1);
    }

    private static void callsWithoutStatus() {
        StripCloth x = new StripCloth();
        Check.due(x, "far(0, 0)", x.far(0, 0), -1, 1);
        Check.due(x, "feed", x.feed(0, 0, 0, 0, 0), 20, 1);
        Check.due(x, "fault(0)", x.fault(0), -1, 1);
        Check.due(x, "out(0)", x.out(0), -1, 1);
        Check.due(x, "status()", x.status(), 1, 1);
        Check.due(x, "loom(1, 1)", x.loom(1, 1), true, 0);
    }

    private static void theFirstStatusThatHolds() {
        StripCloth x = Check.with("strip a: a1; cloth a: a;");
        Check.due(x, "strip(1, 9)", x.strip(1, 9), -1, 1);
        Check.due(x, "pick(-1, 9)", x.pick(-1, 9), -1, 1);
        Check.due(x, "block(1, 9, 9)", x.block(1, 9, 9), -1, 1);
        Check.due(x, "cloth(0, 1, 9)", x.cloth(0, 1, 9), -1, 1);
        Check.due(x, "at(0, 1, 500)", x.at(0, 1, 500), -1, 1);
        Check.due(x, "seam(0, 0, 3)", x.seam(0, 0, 3), -1, 1);
        Check.due(x, "shifts(1, 21)", x.shifts(1, 21), -1, 1);
        Check.due(x, "yarn(1, 8)", x.yarn(1, 8), -1, 1);
        Check.due(x, "stock(0, -1)", x.stock(0, -1), false, 1);
        Check.due(x, "dye(1, 8)", x.dye(1, 8), -1, 1);
        Check.due(x, "strip(0, 9)", x.strip(0, 9), -1, 2);
    }
}
