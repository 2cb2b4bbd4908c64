/** What the tests share: telling a wrong answer, and feeding texts. */
final class Check {
    private static int asked = 0;
    private static int wrong = 0;

    private Check() {
    }

    static void due(String call, long got, long want) {
        asked++;
        if (got != want) {
            wrong++;
            System.out.println(call + " answered " + got + ", due is " + want);
        }
    }

    static void due(String call, boolean got, boolean want) {
        due(call, got ? 1 : 0, want ? 1 : 0);
    }

    /** An answer together with the STATUS that the call leaves. */
    static void due(StripCloth x, String call, long got, long want, int wantStatus) {
        due(call, got, want);
        due("status() behind " + call, x.status(), wantStatus);
    }

    static void due(StripCloth x, String call, boolean got, boolean want, int wantStatus) {
        due(x, call, got ? 1 : 0, want ? 1 : 0, wantStatus);
    }

    /** OUT, byte by byte, and that it ends there. */
    static void dueOut(StripCloth x, String call, int... want) {
        for (int k = 0; k < want.length; k++) {
            due("out(" + k + ") behind " + call, x.out(k), want[k]);
        }
        due("out(" + want.length + ") behind " + call, x.out(want.length), StripCloth.NONE);
        due("out(-1) behind " + call, x.out(-1), StripCloth.NONE);
    }

    static int feed(StripCloth x, byte[] bytes) {
        int size = 0;
        for (int from = 0; from < bytes.length; from += 20) {
            int[] five = new int[5];
            for (int k = 0; k < 20; k++) {
                int b = from + k < bytes.length ? bytes[from + k] & 255 : ' ';
                five[k / 4] = five[k / 4] << 8 | b;
            }
            size = x.feed(five[0], five[1], five[2], five[3], five[4]);
        }
        return size;
    }

    static byte[] bytes(String text) {
        byte[] bytes = new byte[text.length()];
        for (int k = 0; k < bytes.length; k++) {
            bytes[k] = (byte) text.charAt(k);
        }
        return bytes;
    }

    static int load(StripCloth x, String text) {
        feed(x, bytes(text));
        return x.load(text.length());
    }

    /** A new object with that TEXT, which has no FAULT. */
    static StripCloth with(String text) {
        StripCloth x = new StripCloth();
        int strips = load(x, text);
        due("fault(0) of " + text, x.fault(0), 0);
        due("load of " + text, strips, text.split("strip", -1).length - 1);
        return x;
    }

    static void end() {
        System.out.println(asked + " answers looked at, " + wrong + " not as due");
        if (wrong != 0 || asked == 0) {
            System.exit(1);
        }
    }
}
