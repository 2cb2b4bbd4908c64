/** What the tests share: telling a wrong answer, and feeding texts. */
final class Check {
    private static int asked = 0;
    private static int wrong = 0;
    private static String sentence = "";
    private static int askedAhead = 0;

    private Check() {
    }

    /** What is asked from here on is what the document says with these words; DocTest looks them up there. */
    static void says(String words) {
        endSentence();
        sentence = words;
        askedAhead = asked;
    }

    private static void endSentence() {
        if (!sentence.isEmpty() && asked == askedAhead) {
            wrong++;
            System.out.println("nothing is asked of: " + sentence);
        }
        sentence = "";
    }

    static void due(String call, long got, long want) {
        asked++;
        if (got != want) {
            wrong++;
            System.out.println(call + " answered " + got + ", due is " + want
                    + (sentence.isEmpty() ? "" : ", as the document says: " + sentence));
        }
    }

    static void due(String call, boolean got, boolean want) {
        due(call, got ? 1 : 0, want ? 1 : 0);
    }

    /** An answer together with the STATUS that the call leaves. */
    static void due(StripCloth x, String call, long got, long want, int wantStatus) {
        due(call, got, want);
        due("status() behind " + call, x.status(), wantStatus);
    }

    static void due(StripCloth x, String call, boolean got, boolean want, int wantStatus) {
        due(x, call, got ? 1 : 0, want ? 1 : 0, wantStatus);
    }

    /** OUT, byte by byte, and that it ends there. */
    static void dueOut(StripCloth x, String call, int... want) {
        for (int k = 0; k < want.length; k++) {
            due("out(" + k + ") behind " + call, x.out(k), want[k]);
        }
        due("out(" + want.length + ") behind " + call, x.out(want.length), StripCloth.NONE);
        due("out(-1) behind " + call, x.out(-1), StripCloth.NONE);
    }

    /** The PICKS of a STRIP, a letter each, and that it ends there. */
    static void duePicks(StripCloth x, int strip, String want) {
        due(x, "strip(" + strip + ", 1) of " + want, x.strip(strip, 1), want.length(), 0);
        for (int p = 0; p < want.length(); p++) {
            due("pick(" + strip + ", " + p + ") of " + want, x.pick(strip, p), want.charAt(p) - 'a');
        }
        due(x, "pick(" + strip + ", " + want.length() + ") of " + want, x.pick(strip, want.length()), -1, 2);
    }

    static int feed(StripCloth x, byte[] bytes) {
        int size = 0;
        for (int from = 0; from < bytes.length; from += 20) {
            int[] five = new int[5];
            for (int k = 0; k < 20; k++) {
                int b = from + k < bytes.length ? bytes[from + k] & 255 : ' ';
                five[k / 4] = five[k / 4] << 8 | b;
            }
            size = x.feed(five[0], five[1], five[2], five[3], five[4]);
        }
        return size;
    }

    static byte[] bytes(String text) {
        byte[] bytes = new byte[text.length()];
        for (int k = 0; k < bytes.length; k++) {
            bytes[k] = (byte) text.charAt(k);
        }
        return bytes;
    }

    static int load(StripCloth x, String text) {
        feed(x, bytes(text));
        return x.load(text.length());
    }

    /** A new object with that TEXT, which has no FAULT. */
    static StripCloth with(String text) {
        StripCloth x = new StripCloth();
        int strips = load(x, text);
        due("fault(0) of " + text, x.fault(0), 0);
        due("load of " + text, strips, text.split("strip", -1).length - 1);
        return x;
    }

    static void fault(String text, int kind, int place) {
        StripCloth x = new StripCloth();
        due(x, "load of " + text, load(x, text), -1, 4);
        due("fault(0) of " + text, x.fault(0), kind);
        due("fault(1) of " + text, x.fault(1), place);
    }

    /** At the place where the mark ^ stands, which is no part of the text. */
    static void faultAt(String marked, int kind) {
        int place = marked.indexOf('^');
        fault(marked.substring(0, place) + marked.substring(place + 1), kind, place);
    }

    /** So many STRIPS, a on, each of one PICK. */
    static String strips(int n) {
        StringBuilder text = new StringBuilder();
        for (int k = 0; k < n; k++) {
            text.append("strip ").append((char) ('a' + k)).append(":a1;");
        }
        return text.toString();
    }

    /** So many CLOTHS, a on, each of the STRIP a. */
    static String cloths(int n) {
        StringBuilder text = new StringBuilder();
        for (int k = 0; k < n; k++) {
            text.append("cloth ").append((char) ('a' + k)).append(":a;");
        }
        return text.toString();
    }

    static void end() {
        endSentence();
        System.out.println(asked + " answers looked at, " + wrong + " not as due");
        if (wrong != 0 || asked == 0) {
            System.exit(1);
        }
    }
}
