import java.util.ArrayList;
import java.util.List;

/** Every call that is refused, on one of two objects made alike: behind it both answer alike to all that can be asked. */
public final class RefusalEdgesTest {
    private static final int NONE = StripCloth.NONE;
    private static final String TEXT = "strip a: a2 b2; strip b: c1 d1 a1; strip c: a5; cloth a: a, turn b + 1, c + 2;"
            + "cloth b: a,a,a,a,a,a,a,a,a; cloth c: b; cloth d: c, c;";
    private static final int MOST_CALLS = 512;

    private interface Call {
        int on(StripCloth x);
    }

    private final boolean full;
    private List<Integer> answers;

    private RefusalEdgesTest(boolean full) {
        this.full = full;
    }

    public static void main(String[] args) {
        Check.says("A call with another STATUS than 0 gives NONE, or false, and changes nothing but STATUS.");
        for (boolean full : new boolean[] {false, true}) {
            RefusalEdgesTest test = new RefusalEdgesTest(full);
            test.noSuch();
            test.numbersOfQuestions();
            test.numbersOfChanges();
            test.others();
            test.aFaultKeepsAllButTheTape();
        }
        Check.end();
    }

    /** Something of all that an object can hold: STRIPS, CLOTHS, a FAULT, a tape, OUT, a loom, LOTS and RIGHTS. */
    private StripCloth rich() {
        StripCloth x = new StripCloth();
        Check.load(x, TEXT);
        Check.load(x, "strip a: a0;");
        Check.feed(x, Check.bytes("strip q: h3 g2; strip r: f1; A"));
        x.loom(1, 0);
        x.lot(0, 8);
        x.lot(0, 5);
        x.lot(2, 1);
        x.right(0, 5, 10, 20, 30);
        x.right(1, 7, 10, 20, 30);
        for (int k = 3; full && k < 6; k++) {
            x.lot(3, k);
        }
        for (int k = 2; full && k < 60; k++) {
            x.right(2, k % 10, k, k, k);
        }
        x.shifts(0, 3);
        return x;
    }

    private int calls(int ahead) {
        return ahead + answers.size();
    }

    private void ask(int answer) {
        answers.add(answer);
    }

    private void askStripsAndCloths(StripCloth x) {
        for (int k = 0; k < 4; k++) {
            for (int what = 0; what < 3; what++) {
                ask(x.strip(k, what));
            }
            for (int p = 0; p < 6; p++) {
                ask(x.pick(k, p));
            }
            ask(x.yarn(k, 0));
        }
        for (int c = 0; c < 5; c++) {
            for (int what = 0; what < 4; what++) {
                ask(x.cloth(c, NONE, what));
                ask(x.cloth(c, 1, what));
            }
        }
    }

    private void askOut(StripCloth x) {
        for (int k = -1; k < 13; k++) {
            ask(x.out(k));
        }
    }

    private void askHouse(StripCloth x) {
        for (int cloth = 0; cloth < 4; cloth++) {
            for (int colour : new int[] {0, 2, 3}) {
                ask(x.dye(cloth, colour));
            }
            askOut(x);
        }
        for (int name = 0; name < 4; name++) {
            for (int rank = 4; rank < 8; rank++) {
                ask(x.may(name, rank, 10, 30));
                ask(x.may(name, rank, 58, 9999));
            }
        }
        ask(x.lot(3, 9));
        for (int k = 0; !full && k < 59; k++) {
            ask(x.right(3, 0, 0, 0, 0) ? 1 : 0);
        }
    }

    private void askTape(StripCloth x) {
        ask(x.fault(0));
        ask(x.fault(1));
        ask(x.feed(0, 0, 0, 0, 0));
        ask(x.load(28));
        ask(x.strip(0, 0));
        ask(x.strip(1, 0));
    }

    private List<Integer> all(StripCloth x, boolean withTape) {
        answers = new ArrayList<>();
        askOut(x);
        askStripsAndCloths(x);
        askHouse(x);
        if (withTape) {
            askTape(x);
        }
        return answers;
    }

    private void refused(String name, int status, boolean withTape, Call call) {
        StripCloth x = rich();
        StripCloth y = rich();
        Check.due(x, name, call.on(x), NONE, status);
        List<Integer> got = all(x, withTape);
        List<Integer> want = all(y, withTape);
        Check.due("what is asked behind " + name, got.equals(want), true);
        // at most 12 feeds, 3 loads, 6 LOTS, 60 RIGHTS, loom, shifts and what is refused are ahead
        Check.due("calls are at most 512", calls(90) <= MOST_CALLS, true);
    }

    private void refused(String name, int status, Call call) {
        refused(name, status, true, call);
    }

    private static int none(boolean answer) {
        return answer ? 1 : NONE;
    }

    private void noSuch() {
        for (int wrong : new int[] {-1, 3, 12, Integer.MIN_VALUE, Integer.MAX_VALUE}) {
            refused("strip", 1, x -> x.strip(wrong, 0));
            refused("pick", 1, x -> x.pick(wrong, 0));
            refused("block", 1, x -> x.block(wrong, 0, 0));
            refused("yarn", 1, x -> x.yarn(wrong, 0));
            refused("far", 1, x -> x.far(wrong, 0));
            refused("far", 1, x -> x.far(0, wrong));
        }
        for (int wrong : new int[] {-1, 4, 6, Integer.MIN_VALUE, Integer.MAX_VALUE}) {
            refused("cloth", 1, x -> x.cloth(wrong, NONE, 0));
            refused("cloth of a part", 1, x -> x.cloth(0, wrong == NONE ? -2 : wrong, 0));
            refused("at", 1, x -> x.at(wrong, 0, 0));
            refused("at of a part", 1, x -> x.at(0, wrong, 0));
            refused("seam", 1, x -> x.seam(wrong, 0, 0));
            refused("seam of a part", 1, x -> x.seam(0, wrong, 0));
            refused("shifts", 1, x -> x.shifts(wrong, 0));
            refused("order", 1, x -> x.order(wrong));
            refused("dye", 1, x -> x.dye(wrong, 0));
        }
        for (int wrong : new int[] {-1, 6, Integer.MIN_VALUE, Integer.MAX_VALUE}) {
            refused("stock", 1, x -> none(x.stock(wrong, 5)));
        }
        if (!full) {
            refused("stock", 1, x -> none(x.stock(3, 5)));
        }
    }

    private void numbersOfQuestions() {
        for (int wrong : new int[] {-1, 4, Integer.MIN_VALUE, Integer.MAX_VALUE}) {
            refused("strip", 2, x -> x.strip(0, wrong));
            refused("pick", 2, x -> x.pick(0, wrong));
            refused("block", 2, x -> x.block(0, wrong, 0));
            refused("what of a block", 2, x -> x.block(0, 0, wrong));
            refused("cloth", 2, x -> x.cloth(0, NONE, wrong));
            refused("what of a part", 2, x -> x.cloth(0, 0, wrong));
            refused("seam", 2, x -> x.seam(0, 0, wrong));
        }
        for (int wrong : new int[] {-1, 10000, Integer.MIN_VALUE, Integer.MAX_VALUE}) {
            refused("at", 2, x -> x.at(0, 0, wrong));
            refused("shifts", 2, x -> x.shifts(0, wrong));
            refused("yarn", 2, x -> x.yarn(0, wrong));
            refused("dye", 2, x -> x.dye(0, wrong));
            refused("may by name", 2, x -> x.may(wrong, 0, 0, 0));
            refused("may by rank", 2, x -> x.may(0, wrong, 0, 0));
            refused("may by day", 2, x -> x.may(0, 0, wrong, 0));
            refused("may by what is known", 2, x -> x.may(0, 0, 0, wrong));
        }
        refused("shifts(0, 21)", 2, x -> x.shifts(0, 21));
        refused("at(0, 0, 500)", 2, x -> x.at(0, 0, 500));
    }

    private void numbersOfChanges() {
        for (int wrong : new int[] {-1, 1000001, Integer.MIN_VALUE, Integer.MAX_VALUE}) {
            refused("load", 2, x -> x.load(wrong));
            refused("width", 2, x -> none(x.loom(wrong, 7)));
            refused("take-up", 2, x -> none(x.loom(7, wrong)));
            refused("lot's colour", 2, x -> x.lot(wrong, 9));
            refused("lot's yarn", 2, x -> x.lot(0, wrong));
            refused("stock", 2, x -> none(x.stock(0, wrong)));
            refused("right's name", 2, x -> none(x.right(wrong, 9, 0, 9, 9)));
            refused("right's rank", 2, x -> none(x.right(0, wrong, 0, 9, 9)));
            refused("right's first day", 2, x -> none(x.right(0, 9, wrong, 9999, 9)));
            refused("right's last day", 2, x -> none(x.right(0, 9, 0, wrong, 9)));
            refused("right's day of telling", 2, x -> none(x.right(0, 9, 0, 9, wrong)));
        }
        refused("load(41)", 2, x -> x.load(41));
        refused("loom(0, 7)", 2, x -> none(x.loom(0, 7)));
        refused("loom(501, 7)", 2, x -> none(x.loom(501, 7)));
        refused("loom(7, 51)", 2, x -> none(x.loom(7, 51)));
        refused("lot(8, 9)", 2, x -> x.lot(8, 9));
        refused("right(26, 9, 0, 9, 9)", 2, x -> none(x.right(26, 9, 0, 9, 9)));
        refused("right(0, 10, 0, 9, 9)", 2, x -> none(x.right(0, 10, 0, 9, 9)));
        refused("right(0, 9, 10, 9, 9)", 2, x -> none(x.right(0, 9, 10, 9, 9)));
        refused("right(0, 9, 0, 10000, 9)", 2, x -> none(x.right(0, 9, 0, 10000, 9)));
        refused("right(0, 9, 0, 9, 10000)", 2, x -> none(x.right(0, 9, 0, 9, 10000)));
    }

    private void others() {
        if (full) {
            refused("a lot too many", 3, x -> x.lot(0, 1000000));
            refused("a right too many", 3, x -> none(x.right(0, 9, 0, 9999, 9999)));
        }
        refused("dye without such a colour", 5, x -> x.dye(0, 7));
        refused("dye that can't be", 6, x -> x.dye(0, 1));
        refused("order of nine", 7, x -> x.order(1));
        refused("dye of nine", 7, x -> x.dye(1, 0));
    }

    private void aFaultKeepsAllButTheTape() {
        refused("load of a FAULT behind two STRIPS", 4, false, x -> x.load(40));
        refused("load of a part of a WORD", 4, false, x -> x.load(1));
        refused("load of a STRIP that does not end", 4, false, x -> x.load(14));
    }
}
