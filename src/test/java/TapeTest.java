/** Promises 3, 4 and 5: feed(), load() and fault(). */
public final class TapeTest {
    public static void main(String[] args) {
        bytesStandHighestFirst();
        theTapeHasRoomFor800();
        wrongLengthsChangeNothing();
        loadingEmptiesTheTape();
        theTextEndsWhereItIsSaid();
        aFaultKeepsWhatWasTold();
        anEmptyTextTellsNothing();
        faultIsOfTheLatestReading();
        Check.end();
    }

    private static void bytesStandHighestFirst() {
        StripCloth x = new StripCloth();
        Check.due("feed", x.feed(0x73747269, 0x7020633a, 0x68376735, 0x3b202020, 0x0a0a0a0a), 20);
        Check.due(x, "load(20)", x.load(20), 1, 0);
        Check.due("strip(0, 0)", x.strip(0, 0), 2);
        Check.due("pick(0, 6)", x.pick(0, 6), 7);
        Check.due("pick(0, 7)", x.pick(0, 7), 6);
        Check.due("strip(0, 1)", x.strip(0, 1), 12);
        x.feed(0x73747269, 0x7020633a, 0x686820ff, 0x80000001, 0xffffffff);
        Check.due(x, "load(20)", x.load(20), -1, 4);
        x.feed(0xf3747269, 0x7020633a, 0x68376735, 0x3b202020, 0x20202020);
        Check.due(x, "load(20)", x.load(20), -1, 4);
        Check.due("fault(0) of a byte above 127", x.fault(0), 1);
        Check.due("fault(1) of a byte above 127", x.fault(1), 0);
    }

    private static void theTapeHasRoomFor800() {
        StripCloth x = new StripCloth();
        for (int k = 1; k <= 40; k++) {
            Check.due("feed " + k, x.feed(0x20202020, 0x20202020, 0x20202020, 0x20202020, 0x20202020), 20 * k);
        }
        Check.due("feed 41", x.feed(0, 0, 0, 0, 0), -1);
        Check.due(x, "load(801)", x.load(801), -1, 2);
        Check.due(x, "load(800)", x.load(800), 0, 0);
        Check.due("feed again", x.feed(0, 0, 0, 0, 0), 20);
    }

    private static void wrongLengthsChangeNothing() {
        StripCloth x = new StripCloth();
        Check.feed(x, Check.bytes("strip a: a1;"));
        Check.due(x, "load(-1)", x.load(-1), -1, 2);
        Check.due(x, "load(21)", x.load(21), -1, 2);
        Check.due(x, "load(int's least)", x.load(Integer.MIN_VALUE), -1, 2);
        Check.due(x, "load(int's greatest)", x.load(Integer.MAX_VALUE), -1, 2);
        Check.due("fault(0) ahead of any", x.fault(0), -1);
        Check.due(x, "load(20)", x.load(20), 1, 0);
    }

    private static void loadingEmptiesTheTape() {
        StripCloth x = new StripCloth();
        Check.feed(x, Check.bytes("strip a: a1; strip a: b1; strip b: c"));
        Check.due(x, "load(12)", x.load(12), 1, 0);
        Check.due(x, "load(1)", x.load(1), -1, 2);
        Check.due("feed", x.feed(0, 0, 0, 0, 0), 20);
        Check.due(x, "load(1)", x.load(1), -1, 4);
        Check.due("feed", x.feed(0, 0, 0, 0, 0), 20);
    }

    private static void theTextEndsWhereItIsSaid() {
        String text = "strip a: a12; cloth x: turn a ;";
        int[] ends = {0, 3, 5, 6, 7, 8, 9, 10, 11, 12, 13, 16, 19, 21, 22, 25, 27, 29, 30, 31};
        for (int end : ends) {
            StripCloth x = new StripCloth();
            Check.feed(x, Check.bytes(text));
            boolean whole = end == 0 || end == 13 || end == 31;
            Check.due(x, "load(" + end + ") of " + text, x.load(end), whole ? Math.min(end, 1) : -1, whole ? 0 : 4);
            // a part of a WORD is another WORD
            int place = end == 3 ? 0 : end == 16 ? 14 : end == 25 ? 23 : end;
            Check.due("fault(1) behind load(" + end + ")", x.fault(1), whole ? -1 : place);
            Check.due("fault(0) behind load(" + end + ")", x.fault(0), whole ? 0 : 2);
        }
    }

    private static void aFaultKeepsWhatWasTold() {
        StripCloth x = Check.with("strip a: a3; strip b: b4 c1; cloth c: a, b;");
        Check.due(x, "load", Check.load(x, "strip f: f9; cloth g: f; cloth h: g;"), -1, 4);
        Check.due("strip(0, 0)", x.strip(0, 0), 0);
        Check.due("strip(1, 1)", x.strip(1, 1), 5);
        Check.due("pick(1, 4)", x.pick(1, 4), 2);
        Check.due("cloth(0, -1, 1)", x.cloth(0, -1, 1), 2);
        Check.due(x, "cloth(1, -1, 1)", x.cloth(1, -1, 1), -1, 1);
        Check.due(x, "load", Check.load(x, "strip f: f9;"), 1, 0);
        Check.due("strip(0, 0)", x.strip(0, 0), 5);
        Check.due(x, "strip(1, 0)", x.strip(1, 0), -1, 1);
        Check.due(x, "cloth(0, -1, 1)", x.cloth(0, -1, 1), -1, 1);
    }

    private static void anEmptyTextTellsNothing() {
        StripCloth x = Check.with("strip a: a3; cloth c: a;");
        Check.due(x, "load(0)", x.load(0), 0, 0);
        Check.due(x, "strip(0, 0)", x.strip(0, 0), -1, 1);
        Check.due(x, "cloth(0, -1, 0)", x.cloth(0, -1, 0), -1, 1);
        Check.due("fault(0)", x.fault(0), 0);
        Check.due("fault(1)", x.fault(1), -1);
    }

    private static void faultIsOfTheLatestReading() {
        StripCloth x = new StripCloth();
        Check.due(x, "load", Check.load(x, "strip a: a0;"), -1, 4);
        Check.due("fault(0)", x.fault(0), 4);
        Check.due("fault(1)", x.fault(1), 10);
        Check.due("fault(2)", x.fault(2), -1);
        Check.due("fault(-1)", x.fault(-1), -1);
        Check.due(x, "load(5)", x.load(5), -1, 2);
        Check.due("fault(0) behind STATUS 2", x.fault(0), 4);
        Check.due(x, "load", Check.load(x, "strip a: a1;"), 1, 0);
        Check.due("fault(0)", x.fault(0), 0);
        Check.due("fault(1)", x.fault(1), -1);
    }
}
