import java.util.Random;

/** Promises 1 to 22: runs of at most 512 calls by chance (always the same ones), each answer compared with the Oracle's. */
public final class OracleTest {
    private static final int RUNS = 1000;
    private static final int CALLS = 512;
    // a text of 400 bytes with what is asked behind it, each call with its status()
    private static final int DEAREST_STEP = 2 * (20 + 3) + 2 + 14;
    private static final int[] EDGES = {-2, -1, 0, 1, 2, 3, 7, 8, 9, 10, 20, 21, 25, 26, 50, 51, 100, 399, 400, 499, 500,
        501, 9999, 10000, 1000000, 1000001, Integer.MAX_VALUE, Integer.MIN_VALUE};

    private final Random random;
    private final StripCloth x = new StripCloth();
    private final Oracle o = new Oracle();
    private int calls = 0;
    private String text = "";

    private OracleTest(int seed) {
        random = new Random(seed);
    }

    public static void main(String[] args) {
        int runs = args.length > 0 ? Integer.parseInt(args[0]) : RUNS;
        for (int seed = 0; seed < runs; seed++) {
            new OracleTest(seed).run();
        }
        Check.end();
    }

    private void run() {
        while (calls <= CALLS - DEAREST_STEP) {
            if (random.nextInt(4) == 0) {
                tellText();
            }
            ask();
        }
        Check.due("calls are at most 512", calls <= CALLS, true);
    }

    private void due(String call, int got, int want) {
        calls += 2;
        Check.due(call + " behind " + text, got, want);
        Check.due("status() behind " + call + " behind " + text, x.status(), o.status);
        if (got != want || x.status() != o.status) {
            Check.end();
        }
    }

    private static int bit(boolean b) {
        return b ? 1 : 0;
    }

    private int upTo(int most) {
        return random.nextInt(most + 1);
    }

    /** Mostly a number that can be, now and then one at an edge. */
    private int number(int most) {
        return upTo(11) == 0 ? EDGES[random.nextInt(EDGES.length)] : upTo(most);
    }

    private void tellText() {
        text = new TextMaker(random).text();
        byte[] bytes = Check.bytes(text);
        if (bytes.length > 400) {
            return;
        }
        for (int from = 0; from < bytes.length; from += 20) {
            int[] f = new int[5];
            for (int k = 0; k < 20; k++) {
                f[k / 4] = f[k / 4] << 8 | (from + k < bytes.length ? bytes[from + k] & 255 : 32);
            }
            due("feed", x.feed(f[0], f[1], f[2], f[3], f[4]), o.feed(f[0], f[1], f[2], f[3], f[4]));
        }
        int n = upTo(30) == 0 ? number(800) : bytes.length;
        due("load(" + n + ")", x.load(n), o.load(n));
        due("fault(0)", x.fault(0), o.fault(0));
        due("fault(1)", x.fault(1), o.fault(1));
    }

    private void ask() {
        int a = number(5);
        int b = number(6);
        int c = number(3);
        String args = "(" + a + ", " + b + ", " + c + ")";
        switch (upTo(16)) {
            case 0 -> due("strip" + args, x.strip(a, c), o.strip(a, c));
            case 1 -> {
                int pick = number(20);
                due("pick(" + a + ", " + pick + ")", x.pick(a, pick), o.pick(a, pick));
            }
            case 2 -> due("block" + args, x.block(a, b, c % 2), o.block(a, b, c % 2));
            case 3 -> due("cloth" + args, x.cloth(a % 3, b - 1, c), o.cloth(a % 3, b - 1, c));
            case 4 -> {
                int height = number(40);
                due("at" + args + height, x.at(a % 3, b, height), o.at(a % 3, b, height));
            }
            case 5 -> due("seam" + args, x.seam(a % 3, b, c), o.seam(a % 3, b, c));
            case 6 -> askShifts(a % 3);
            case 7 -> {
                due("order" + args, x.order(a % 3), o.order(a % 3));
                askOut();
            }
            case 8 -> due("loom", bit(x.loom(b, c)), bit(o.loom(b, c)));
            case 9 -> due("yarn" + args, x.yarn(a, c), o.yarn(a, c));
            case 10 -> due("lot", x.lot(c, b * 9), o.lot(c, b * 9));
            case 11 -> {
                int yarn = number(60);
                due("stock", bit(x.stock(a, yarn)), bit(o.stock(a, yarn)));
            }
            case 12, 13 -> {
                due("dye" + args, x.dye(a % 3, c), o.dye(a % 3, c));
                askOut();
            }
            case 14 -> due("far" + args, x.far(a, b), o.far(a, b));
            case 15 -> tellRight(c);
            default -> {
                int rank = number(9);
                int day = number(12);
                int known = number(6);
                due("may", x.may(c, rank, day, known), o.may(c, rank, day, known));
            }
        }
    }

    private void askShifts(int cloth) {
        int s = number(20);
        while (s > 0 && o.waysToShift(cloth, s) > 40000) {
            s--;
        }
        if (o.waysToShift(cloth, s) < 40000) {
            due("shifts(" + cloth + ", " + s + ")", x.shifts(cloth, s), o.shifts(cloth, s));
            askOut();
        }
    }

    private void askOut() {
        calls += 14;
        for (int k = -1; k < 13; k++) {
            Check.due("out(" + k + ") behind " + text, x.out(k), o.out(k));
        }
    }

    private void tellRight(int name) {
        int rank = number(9);
        int from = number(9);
        int to = number(12);
        int told = number(6);
        due("right", bit(x.right(name, rank, from, to, told)), bit(o.right(name, rank, from, to, told)));
    }
}
