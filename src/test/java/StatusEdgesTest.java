/** The document's fifth terms and promises 1 to 8, sentence by sentence: STATUS, the tape, and what a STRIP is told of. */
public final class StatusEdgesTest {
    private static final int LEAST = Integer.MIN_VALUE;
    private static final int GREATEST = Integer.MAX_VALUE;
    private static final int BLANKS = 0x20202020;

    public static void main(String[] args) {
        useFor512Calls();
        theFirstThatHolds();
        noSuch();
        numbersThatCannotBe();
        oneTooMany();
        aFault();
        noSuchColour();
        itCannotBe();
        moreThanEightParts();
        zeroElse();
        callsWithoutStatus();
        numberedAsTold();
        aNewObject();
        statusOfTheLatestCall();
        highestByteFirst();
        noMoreThan800();
        theFirstBytes();
        inPlaceOfAll();
        lengthsThatCannotBe();
        emptyThenToo();
        faultOfTheLatestLoad();
        noFaultToTell();
        strip();
        pick();
        block();
        Check.end();
    }

    private static void useFor512Calls() {
        Check.says("An object is used for at most 512 calls after it has been made; what later calls answer is free.");
        StripCloth x = new StripCloth();
        int calls = 0;
        while (calls < 506) {
            // twenty bytes with as many PICKS as there can be: strip a:4(50(a1b1));
            Check.due("call " + calls, x.feed(0x73747269, 0x7020613a, 0x34283530, 0x28613162, 0x3129293b), 20);
            Check.due("call " + (calls + 1), x.load(20), 1);
            calls += 2;
        }
        Check.due("call 507", x.pick(0, 399), 1);
        Check.due("call 508", x.block(0, 399, 1), 1);
        Check.due("call 509", x.far(0, 0), 0);
        Check.due("call 510", x.strip(0, 3), -1);
        Check.due("call 511", x.status(), 2);
        Check.due("call 512", x.strip(0, 2), 400);
        // what these answer is free, that they answer is not
        x.feed(0, 0, 0, 0, 0);
        x.load(20);
        x.strip(0, 2);
    }

    private static void theFirstThatHolds() {
        Check.says("STATUS of a call is the first of these that holds:");
        StripCloth x = Check.with("strip a: a1; cloth a: a; cloth b: a,a,a,a,a,a,a,a,a;");
        // 1 and 2
        Check.due(x, "strip(1, 3)", x.strip(1, 3), -1, 1);
        Check.due(x, "pick(1, 1)", x.pick(1, 1), -1, 1);
        Check.due(x, "block(1, 1, 2)", x.block(1, 1, 2), -1, 1);
        Check.due(x, "cloth(2, -1, 4)", x.cloth(2, -1, 4), -1, 1);
        Check.due(x, "cloth(0, 1, 4)", x.cloth(0, 1, 4), -1, 1);
        Check.due(x, "at(2, 0, 500)", x.at(2, 0, 500), -1, 1);
        Check.due(x, "at(0, 1, 500)", x.at(0, 1, 500), -1, 1);
        Check.due(x, "seam(2, 0, 3)", x.seam(2, 0, 3), -1, 1);
        Check.due(x, "seam(0, 0, 3)", x.seam(0, 0, 3), -1, 1);
        Check.due(x, "shifts(2, 21)", x.shifts(2, 21), -1, 1);
        Check.due(x, "yarn(1, 8)", x.yarn(1, 8), -1, 1);
        Check.due(x, "stock(0, -1)", x.stock(0, -1), false, 1);
        Check.due(x, "dye(2, 8)", x.dye(2, 8), -1, 1);
        // 2 and 3
        for (int k = 0; k < 6; k++) {
            x.lot(0, 0);
        }
        Check.due(x, "lot(8, 0)", x.lot(8, 0), -1, 2);
        for (int k = 0; k < 60; k++) {
            x.right(0, 0, 0, 0, 0);
        }
        Check.due(x, "right(0, 0, 0, 0, -1)", x.right(0, 0, 0, 0, -1), false, 2);
        // 2 and 7; 5 and 6; 7 and 6, of which dye() says that 7 is ahead
        Check.due(x, "dye(1, 8)", x.dye(1, 8), -1, 2);
        Check.due(x, "dye(0, 1)", x.dye(0, 1), -1, 5);
        Check.due(x, "dye(1, 0)", x.dye(1, 0), -1, 7);
    }

    private static void noSuch() {
        Check.says("1 no such STRIP, CLOTH, PART, LOT.");
        StripCloth x = Check.with("strip a: a1; strip b: b1; cloth a: a, b;");
        x.lot(0, 0);
        for (int wrong : new int[] {-1, 2, 12, LEAST, GREATEST}) {
            Check.due(x, "strip(" + wrong + ", 0)", x.strip(wrong, 0), -1, 1);
            Check.due(x, "pick(" + wrong + ", 0)", x.pick(wrong, 0), -1, 1);
            Check.due(x, "block(" + wrong + ", 0, 0)", x.block(wrong, 0, 0), -1, 1);
            Check.due(x, "yarn(" + wrong + ", 0)", x.yarn(wrong, 0), -1, 1);
            Check.due(x, "far(" + wrong + ", 0)", x.far(wrong, 0), -1, 1);
            Check.due(x, "far(0, " + wrong + ")", x.far(0, wrong), -1, 1);
            Check.due(x, "at(0, " + wrong + ", 0)", x.at(0, wrong, 0), -1, 1);
        }
        for (int wrong : new int[] {-1, 1, 6, LEAST, GREATEST}) {
            Check.due(x, "cloth(" + wrong + ", -1, 0)", x.cloth(wrong, -1, 0), -1, 1);
            Check.due(x, "cloth(" + wrong + ", 0, 0)", x.cloth(wrong, 0, 0), -1, 1);
            Check.due(x, "at(" + wrong + ", 0, 0)", x.at(wrong, 0, 0), -1, 1);
            Check.due(x, "seam(" + wrong + ", 0, 0)", x.seam(wrong, 0, 0), -1, 1);
            Check.due(x, "seam(0, " + wrong + ", 0)", x.seam(0, wrong, 0), -1, 1);
            Check.due(x, "shifts(" + wrong + ", 0)", x.shifts(wrong, 0), -1, 1);
            Check.due(x, "order(" + wrong + ")", x.order(wrong), -1, 1);
            Check.due(x, "dye(" + wrong + ", 0)", x.dye(wrong, 0), -1, 1);
            Check.due(x, "stock(" + wrong + ", 0)", x.stock(wrong, 0), false, 1);
        }
        // the last that there is
        Check.due(x, "strip(1, 0)", x.strip(1, 0), 1, 0);
        Check.due(x, "cloth(0, 1, 0)", x.cloth(0, 1, 0), 1, 0);
        Check.due(x, "stock(0, 0)", x.stock(0, 0), true, 0);
    }

    private static void numbersThatCannotBe() {
        Check.says("2 a number that can't be.");
        StripCloth x = Check.with("strip a: a2 b1; cloth a: a, a;");
        x.lot(0, 0);
        for (int wrong : new int[] {-1, 10000, LEAST, GREATEST}) {
            Check.due(x, "strip(0, " + wrong + ")", x.strip(0, wrong), -1, 2);
            Check.due(x, "pick(0, " + wrong + ")", x.pick(0, wrong), -1, 2);
            Check.due(x, "block(0, " + wrong + ", 0)", x.block(0, wrong, 0), -1, 2);
            Check.due(x, "block(0, 0, " + wrong + ")", x.block(0, 0, wrong), -1, 2);
            Check.due(x, "cloth(0, -1, " + wrong + ")", x.cloth(0, -1, wrong), -1, 2);
            Check.due(x, "cloth(0, 0, " + wrong + ")", x.cloth(0, 0, wrong), -1, 2);
            Check.due(x, "at(0, 0, " + wrong + ")", x.at(0, 0, wrong), -1, 2);
            Check.due(x, "seam(0, 0, " + wrong + ")", x.seam(0, 0, wrong), -1, 2);
            Check.due(x, "shifts(0, " + wrong + ")", x.shifts(0, wrong), -1, 2);
            Check.due(x, "loom(" + wrong + ", 0)", x.loom(wrong, 0), false, 2);
            Check.due(x, "yarn(0, " + wrong + ")", x.yarn(0, wrong), -1, 2);
            Check.due(x, "lot(" + wrong + ", 0)", x.lot(wrong, 0), -1, 2);
            Check.due(x, "stock(0, ..)", x.stock(0, wrong == 10000 ? 1000001 : wrong), false, 2);
            Check.due(x, "dye(0, " + wrong + ")", x.dye(0, wrong), -1, 2);
            Check.due(x, "right(0, 0, " + wrong + ", 0, 0)", x.right(0, 0, wrong, 0, 0), false, 2);
            Check.due(x, "may(0, 0, " + wrong + ", 0)", x.may(0, 0, wrong, 0), -1, 2);
            Check.due(x, "load(" + wrong + ")", x.load(wrong), -1, 2);
        }
    }

    private static void oneTooMany() {
        Check.says("3 one too many.");
        StripCloth x = new StripCloth();
        for (int k = 0; k < 6; k++) {
            Check.due(x, "lot " + k, x.lot(0, 0), k, 0);
        }
        Check.due(x, "lot 6", x.lot(0, 0), -1, 3);
        for (int k = 0; k < 60; k++) {
            Check.due(x, "right " + k, x.right(0, 0, 0, 0, 0), true, 0);
        }
        Check.due(x, "right 60", x.right(0, 0, 0, 0, 0), false, 3);
        // of a TEXT it is a FAULT
        Check.due(x, "a STRIP too many", Check.load(x, Check.strips(13)), -1, 4);
    }

    private static void aFault() {
        Check.says("4 a FAULT.");
        String[] faulty = {"A", "a", Check.strips(13), "strip a: a0;", Check.strips(1) + "strip a: a1;", "cloth a: a;",
            "strip a: a200 b200 c1;"};
        for (int kind = 1; kind <= 7; kind++) {
            StripCloth x = Check.with("strip a: a1;");
            Check.due(x, "load of " + faulty[kind - 1], Check.load(x, faulty[kind - 1]), -1, 4);
            Check.due("fault(0) of " + faulty[kind - 1], x.fault(0), kind);
        }
    }

    private static void noSuchColour() {
        Check.says("5 it has no such COLOUR.");
        StripCloth x = Check.with("strip a: a1; strip b: b1; cloth a: a, a; cloth b: a, b;");
        x.lot(0, 1000);
        x.lot(1, 1000);
        Check.due(x, "dye(0, 1)", x.dye(0, 1), -1, 5);
        Check.due(x, "dye(1, 1)", x.dye(1, 1), 1, 0);
        Check.due(x, "dye(1, 2)", x.dye(1, 2), -1, 5);
        // a STRIP without it needs no YARN, which is an answer
        Check.due(x, "yarn(0, 1)", x.yarn(0, 1), 0, 0);
    }

    private static void itCannotBe() {
        Check.says("6 it can't be.");
        StripCloth x = Check.with("strip a: a1; cloth a: a, a;");
        x.loom(1, 0);
        Check.due(x, "dye(0, 0)", x.dye(0, 0), -1, 6);
        x.lot(0, 1);
        Check.due(x, "dye(0, 0)", x.dye(0, 0), -1, 6);
        x.stock(0, 2);
        Check.due(x, "dye(0, 0)", x.dye(0, 0), 1, 0);
    }

    private static void moreThanEightParts() {
        Check.says("7 more than 8 PARTS.");
        StripCloth x = Check.with("strip a: a1; cloth a: a,a,a,a,a,a,a,a; cloth b: a,a,a,a,a,a,a,a,a;"
                + "cloth c: a,a,a,a,a,a,a,a,a,a,a,a;");
        x.lot(0, 1000000);
        int[] status = {0, 7, 7};
        for (int cloth = 0; cloth < 3; cloth++) {
            Check.due(x, "order(" + cloth + ")", x.order(cloth), cloth == 0 ? -7 : -1, status[cloth]);
            Check.due(x, "dye(" + cloth + ", 0)", x.dye(cloth, 0), cloth == 0 ? 1 : -1, status[cloth]);
            Check.due(x, "shifts(" + cloth + ", 1)", x.shifts(cloth, 1), 0, 0);
            Check.due(x, "cloth(" + cloth + ", 7, 3)", x.cloth(cloth, 7, 3), 1, 0);
        }
    }

    private static void zeroElse() {
        Check.says("0 else.");
        StripCloth x = Check.with("strip a: a1; cloth a: a, a;");
        String[] calls = {"strip", "pick", "block", "cloth", "cloth of a part", "at", "seam", "shifts", "order", "loom", "yarn",
            "lot", "stock", "dye", "far", "right", "may", "load"};
        for (int k = 0; k < calls.length; k++) {
            x.far(-1, -1);
            Check.due("status() ahead", x.status(), 1);
            Check.due(calls[k], one(x, k), true);
            Check.due("status() behind " + calls[k], x.status(), 0);
        }
        // an answer like NONE's has STATUS 0 too
        StripCloth y = Check.with("strip a: a1; cloth a: a, a;");
        y.far(-1, -1);
        Check.due(y, "seam(0, 0, 2)", y.seam(0, 0, 2), -1, 0);
        y.far(-1, -1);
        Check.due(y, "at(0, 0, 1)", y.at(0, 0, 1), -1, 0);
        y.far(-1, -1);
        Check.due(y, "order(0)", y.order(0), -1, 0);
        y.far(-1, -1);
        Check.due(y, "shifts(0, 0)", y.shifts(0, 0), -1, 0);
        y.far(-1, -1);
        Check.due(y, "cloth(0, -1, 3)", y.cloth(0, -1, 3), -1, 0);
    }

    /** A call of each kind that can be done, and whether it answers what is due. */
    private static boolean one(StripCloth x, int k) {
        switch (k) {
            case 0: return x.strip(0, 1) == 1;
            case 1: return x.pick(0, 0) == 0;
            case 2: return x.block(0, 0, 1) == 1;
            case 3: return x.cloth(0, -1, 1) == 2;
            case 4: return x.cloth(0, 1, 3) == 1;
            case 5: return x.at(0, 0, 0) == 0;
            case 6: return x.seam(0, 0, 0) == 1;
            case 7: return x.shifts(0, 1) == 0;
            case 8: return x.order(0) == -1;
            case 9: return x.loom(1, 0);
            case 10: return x.yarn(0, 0) == 1;
            case 11: return x.lot(0, 1) == 0;
            case 12: return x.stock(0, 2);
            case 13: return x.dye(0, 0) == 1;
            case 14: return x.far(0, 0) == 0;
            case 15: return x.right(0, 0, 0, 0, 0);
            case 16: return x.may(0, 0, 0, 0) == 1;
            default: return x.load(0) == 0;
        }
    }

    private static void callsWithoutStatus() {
        Check.says("status(), fault(), feed(), out() have none.");
        StripCloth x = new StripCloth();
        for (int status = 0; status < 3; status++) {
            if (status == 1) {
                x.far(0, 0);
            } else if (status == 2) {
                x.load(-1);
            }
            for (int what : new int[] {-1, 0, 1, 2, LEAST, GREATEST}) {
                Check.due(x, "fault(" + what + ")", x.fault(what), -1, status);
                Check.due(x, "out(" + what + ")", x.out(what), -1, status);
            }
            Check.due(x, "status()", x.status(), status, status);
        }
        // a feed() that is refused has none either
        for (int k = 1; k <= 40; k++) {
            Check.due(x, "feed " + k, x.feed(BLANKS, BLANKS, BLANKS, BLANKS, BLANKS), 20 * k, 2);
        }
        Check.due(x, "feed 41", x.feed(BLANKS, BLANKS, BLANKS, BLANKS, BLANKS), -1, 2);
        x.loom(1, 1);
        Check.due(x, "feed 42", x.feed(BLANKS, BLANKS, BLANKS, BLANKS, BLANKS), -1, 0);
    }

    private static void numberedAsTold() {
        Check.says("STRIPS and CLOTHS are numbered as they are told, PARTS from 0 on.");
        StripCloth x = Check.with("strip z: a1; strip b: b2; strip a: c3; cloth y: a, z; cloth c: b; cloth a: z, b, a;");
        int[] names = {25, 1, 0};
        int[] clothNames = {24, 2, 0};
        int[][] parts = {{2, 0}, {1}, {0, 1, 2}};
        for (int k = 0; k < 3; k++) {
            Check.due(x, "strip(" + k + ", 0)", x.strip(k, 0), names[k], 0);
            Check.due(x, "strip(" + k + ", 1)", x.strip(k, 1), k + 1, 0);
            Check.due(x, "cloth(" + k + ", -1, 0)", x.cloth(k, -1, 0), clothNames[k], 0);
            for (int p = 0; p < parts[k].length; p++) {
                Check.due(x, "cloth(" + k + ", " + p + ", 0)", x.cloth(k, p, 0), parts[k][p], 0);
            }
            Check.due(x, "the PART behind the last", x.cloth(k, parts[k].length, 0), -1, 1);
        }
        Check.due(x, "strip(3, 0)", x.strip(3, 0), -1, 1);
        Check.due(x, "cloth(3, -1, 0)", x.cloth(3, -1, 0), -1, 1);
    }

    private static void aNewObject() {
        Check.says("No STRIPS, an empty tape, OUT is empty; STATUS 0.");
        StripCloth x = new StripCloth();
        Check.due("status()", x.status(), 0);
        Check.dueOut(x, "new");
        Check.due(x, "strip(0, 0)", x.strip(0, 0), -1, 1);
        Check.due(x, "cloth(0, -1, 0)", x.cloth(0, -1, 0), -1, 1);
        Check.due(x, "stock(0, 0)", x.stock(0, 0), false, 1);
        Check.due(x, "load(1)", x.load(1), -1, 2);
        Check.due(x, "load(0)", x.load(0), 0, 0);
        Check.due("feed", x.feed(0, 0, 0, 0, 0), 20);
        Check.due(x, "may(0, 0, 0, 0)", x.may(0, 0, 0, 0), 1, 0);
        Check.due(x, "lot(0, 0)", x.lot(0, 0), 0, 0);
        // nothing of one object is another one's
        StripCloth y = new StripCloth();
        Check.due(y, "load(1)", y.load(1), -1, 2);
        Check.due(y, "stock(0, 0)", y.stock(0, 0), false, 1);
    }

    private static void statusOfTheLatestCall() {
        Check.says("The STATUS of the latest call that has one.");
        StripCloth x = Check.with("strip a: a1; cloth a: a;");
        int[] due = {1, 2, 5, 6, 4, 0, 2, 1, 0};
        x.far(0, 1);
        Check.due("status() 0", x.status(), due[0]);
        x.pick(0, 1);
        Check.due("status() 1", x.status(), due[1]);
        x.dye(0, 1);
        Check.due("status() 2", x.status(), due[2]);
        x.dye(0, 0);
        Check.due("status() 3", x.status(), due[3]);
        Check.load(x, "A");
        Check.due("status() 4", x.status(), due[4]);
        x.pick(0, 0);
        Check.due("status() 5", x.status(), due[5]);
        x.loom(0, 0);
        Check.due("status() 6", x.status(), due[6]);
        x.stock(0, 0);
        x.out(5);
        x.fault(7);
        x.feed(0, 0, 0, 0, 0);
        Check.due("status() 7", x.status(), due[7]);
        Check.due("status() again", x.status(), due[7]);
        x.loom(1, 0);
        Check.due("status() 8", x.status(), due[8]);
    }

    private static void highestByteFirst() {
        Check.says("Twenty bytes come behind those on the tape, the highest of each int first: how many it has;");
        StripCloth x = new StripCloth();
        // strip a:a1b2c3d4e5f6g7h8;strip b:h1g2f3e4; and a blank
        Check.due("feed", x.feed(0x73747269, 0x7020613a, 0x61316232, 0x63336434, 0x65356636), 20);
        Check.due("feed", x.feed(0x67376838, 0x3b737472, 0x69702062, 0x3a683167, 0x32663365), 40);
        Check.due("feed", x.feed(0x343b2020, BLANKS, BLANKS, BLANKS, BLANKS), 60);
        Check.due(x, "load(60)", x.load(60), 2, 0);
        Check.duePicks(x, 0, "abbcccddddeeeeeffffffggggggghhhhhhhh");
        Check.duePicks(x, 1, "hggfffeeee");
        // each of the twenty bytes at its place, a byte that begins no TOKEN among blanks
        for (int place = 0; place < 20; place++) {
            int[] five = {BLANKS, BLANKS, BLANKS, BLANKS, BLANKS};
            five[place / 4] |= 0x80 << 8 * (3 - place % 4);
            StripCloth y = new StripCloth();
            y.feed(BLANKS, BLANKS, BLANKS, BLANKS, BLANKS);
            y.feed(five[0], five[1], five[2], five[3], five[4]);
            Check.due(y, "load(40)", y.load(40), -1, 4);
            Check.due("fault(1) of byte " + place, y.fault(1), 20 + place);
        }
    }

    private static void noMoreThan800() {
        Check.says("NONE if there would be more than 800.");
        StripCloth x = new StripCloth();
        for (int k = 1; k <= 40; k++) {
            Check.due("feed " + k, x.feed(BLANKS, BLANKS, BLANKS, BLANKS, BLANKS), 20 * k);
        }
        Check.due("feed 41", x.feed(0, 0, 0, 0, 0), -1);
        Check.due("feed 42", x.feed(0, 0, 0, 0, 0), -1);
        Check.due(x, "load(800)", x.load(800), 0, 0);
        Check.due("feed", x.feed(BLANKS, BLANKS, BLANKS, BLANKS, BLANKS), 20);
        Check.due(x, "load(20)", x.load(20), 0, 0);
    }

    private static void theFirstBytes() {
        Check.says("The first n bytes of the tape (which is empty then) are a TEXT,");
        StripCloth x = new StripCloth();
        Check.feed(x, Check.bytes("strip a: a1; strip b: b1; cloth c: a;"));
        Check.due(x, "load(12)", x.load(12), 1, 0);
        Check.due(x, "strip(1, 0)", x.strip(1, 0), -1, 1);
        Check.due(x, "load(1)", x.load(1), -1, 2);
        Check.due(x, "load(0)", x.load(0), 0, 0);
        // all of the bytes, and all but one
        Check.feed(x, Check.bytes("strip a: a1;       ;"));
        Check.due(x, "load(20)", x.load(20), -1, 4);
        Check.feed(x, Check.bytes("strip a: a1;       ;"));
        Check.due(x, "load(19)", x.load(19), 1, 0);
        Check.due("feed", x.feed(BLANKS, BLANKS, BLANKS, BLANKS, BLANKS), 20);
        Check.due(x, "load(0) of 20", x.load(0), 0, 0);
        Check.due(x, "load(1) of none", x.load(1), -1, 2);
    }

    private static void inPlaceOfAll() {
        Check.says("in place of all STRIPS and CLOTHS there were: how many STRIPS");
        StripCloth x = Check.with("strip a: a1; strip b: b2; cloth c: a; cloth d: b;");
        for (int n : new int[] {12, 1, 0, 2}) {
            Check.due(x, "load of so many STRIPS", Check.load(x, Check.strips(n)), n, 0);
            Check.due(x, "strip(" + n + ", 0)", x.strip(n, 0), -1, 1);
            Check.due(x, "cloth(0, -1, 0)", x.cloth(0, -1, 0), -1, 1);
        }
        Check.due(x, "load", Check.load(x, "strip z: h3; cloth y: z;"), 1, 0);
        Check.due(x, "strip(0, 0)", x.strip(0, 0), 25, 0);
        Check.due(x, "strip(1, 0)", x.strip(1, 0), -1, 1);
        Check.due(x, "cloth(0, -1, 0)", x.cloth(0, -1, 0), 24, 0);
        Check.due(x, "cloth(1, -1, 0)", x.cloth(1, -1, 0), -1, 1);
        // CLOTHS are not counted
        Check.due(x, "load", Check.load(x, Check.strips(1) + Check.cloths(6)), 1, 0);
        Check.due(x, "cloth(5, -1, 0)", x.cloth(5, -1, 0), 5, 0);
    }

    private static void lengthsThatCannotBe() {
        Check.says("(2: n below 0, or more than the tape has;");
        StripCloth x = new StripCloth();
        Check.due(x, "load(-1) of none", x.load(-1), -1, 2);
        Check.due(x, "load(1) of none", x.load(1), -1, 2);
        Check.due(x, "load(0) of none", x.load(0), 0, 0);
        Check.feed(x, Check.bytes("strip a: a1; strip b: b1;"));
        for (int wrong : new int[] {-1, 41, 800, LEAST, GREATEST}) {
            Check.due(x, "load(" + wrong + ") of 40", x.load(wrong), -1, 2);
        }
        // the tape and the FAULT stay
        Check.due("fault(0)", x.fault(0), 0);
        Check.due(x, "load(40) of 40", x.load(40), 2, 0);
    }

    private static void emptyThenToo() {
        Check.says("4: the tape is empty then, too).");
        StripCloth x = Check.with("strip a: a3; cloth c: a;");
        Check.feed(x, Check.bytes("A strip b: b1; strip c: c1;"));
        Check.due(x, "load(1) of 40", x.load(1), -1, 4);
        Check.due(x, "load(1) of none", x.load(1), -1, 2);
        Check.due("feed", x.feed(BLANKS, BLANKS, BLANKS, BLANKS, BLANKS), 20);
        // what was told stays
        Check.due(x, "strip(0, 1)", x.strip(0, 1), 3, 0);
        Check.due(x, "cloth(0, -1, 0)", x.cloth(0, -1, 0), 2, 0);
        Check.due(x, "a FAULT behind a STRIP and a CLOTH", Check.load(x, ";strip d: d1; cloth e: d;"), -1, 4);
        Check.due(x, "load(1)", x.load(1), -1, 2);
        Check.due(x, "strip(0, 0)", x.strip(0, 0), 0, 0);
        // nothing of a TEXT with a FAULT is left over for the next one, not what is open in it either
        Check.due(x, "a FAULT within ( )", Check.load(x, "strip d: d1; strip e: e9 2(turn(f1"), -1, 4);
        String next = "strip g: g1; strip d: " + "turn(".repeat(7) + "2(h1 a1" + ")".repeat(8) + ";";
        Check.due(x, "load of " + next, Check.load(x, next), 2, 0);
        Check.duePicks(x, 0, "g");
        Check.duePicks(x, 1, "ahah");
    }

    private static void dueFault(StripCloth x, String behind, int kind, int place) {
        Check.due("fault(0) behind " + behind, x.fault(0), kind);
        Check.due("fault(1) behind " + behind, x.fault(1), place);
    }

    private static void faultOfTheLatestLoad() {
        Check.says("Of the latest load() with STATUS 0 or 4, what 0: the FAULT (0 without one), 1: its place (NONE without).");
        StripCloth x = new StripCloth();
        Check.load(x, "strip a: a0;");
        dueFault(x, "a FAULT", 4, 10);
        x.load(1);
        dueFault(x, "STATUS 2", 4, 10);
        x.load(-1);
        dueFault(x, "STATUS 2", 4, 10);
        x.far(0, 0);
        dueFault(x, "another call", 4, 10);
        Check.load(x, "A");
        dueFault(x, "a FAULT at the beginning", 1, 0);
        Check.load(x, "strip a: a1;");
        dueFault(x, "none", 0, -1);
        x.load(1);
        dueFault(x, "STATUS 2", 0, -1);
        Check.load(x, "strip a: a1" + " ".repeat(789));
        dueFault(x, "a FAULT at the end", 2, 800);
        x.load(0);
        dueFault(x, "an empty TEXT", 0, -1);
    }

    private static void noFaultToTell() {
        Check.says("NONE for others, and ahead of any.");
        StripCloth x = new StripCloth();
        int[] others = {-1, 2, 3, LEAST, GREATEST};
        dueFault(x, "nothing", -1, -1);
        for (int what : others) {
            Check.due("fault(" + what + ") ahead of any", x.fault(what), -1);
        }
        x.load(1);
        dueFault(x, "STATUS 2 alone", -1, -1);
        Check.load(x, "strip a: a0;");
        for (int what : others) {
            Check.due("fault(" + what + ") of a FAULT", x.fault(what), -1);
        }
        x.load(0);
        for (int what : others) {
            Check.due("fault(" + what + ") without one", x.fault(what), -1);
        }
    }

    private static void strip() {
        Check.says("Of a STRIP, what 0: its NAME (0 for a), 1: PICKS, 2: BLOCKS (1; 2).");
        StripCloth x = Check.with("strip a: a1; strip z: 2(a200); strip m: 4(50(a1 b1)); strip b: a2 b1 a3;");
        int[][] due = {{0, 1, 1}, {25, 400, 1}, {12, 400, 400}, {1, 6, 3}};
        for (int strip = 0; strip < 4; strip++) {
            for (int what = 0; what < 3; what++) {
                Check.due(x, "strip(" + strip + ", " + what + ")", x.strip(strip, what), due[strip][what], 0);
            }
            for (int wrong : new int[] {-1, 3, LEAST, GREATEST}) {
                Check.due(x, "strip(" + strip + ", " + wrong + ")", x.strip(strip, wrong), -1, 2);
            }
        }
        for (int wrong : new int[] {-1, 4, 12, LEAST, GREATEST}) {
            Check.due(x, "strip(" + wrong + ", 0)", x.strip(wrong, 0), -1, 1);
            Check.due(x, "strip(" + wrong + ", 3)", x.strip(wrong, 3), -1, 1);
        }
    }

    private static void pick() {
        Check.says("The COLOUR of a PICK of a STRIP (1; 2: PICK).");
        StripCloth x = Check.with("strip a: h1; strip b: a1 2(b199) h1;");
        Check.due(x, "pick(0, 0)", x.pick(0, 0), 7, 0);
        Check.due(x, "pick(0, 1)", x.pick(0, 1), -1, 2);
        int[] picks = {0, 1, 198, 398, 399};
        int[] colours = {0, 1, 1, 1, 7};
        for (int k = 0; k < picks.length; k++) {
            Check.due(x, "pick(1, " + picks[k] + ")", x.pick(1, picks[k]), colours[k], 0);
        }
        for (int wrong : new int[] {-1, 400, LEAST, GREATEST}) {
            Check.due(x, "pick(1, " + wrong + ")", x.pick(1, wrong), -1, 2);
        }
        for (int wrong : new int[] {-1, 2, 12, LEAST, GREATEST}) {
            Check.due(x, "pick(" + wrong + ", 0)", x.pick(wrong, 0), -1, 1);
            Check.due(x, "pick(" + wrong + ", -1)", x.pick(wrong, -1), -1, 1);
        }
    }

    private static void block() {
        Check.says("Of a BLOCK of a STRIP, what 0: its COLOUR, 1: its PICKS (1; 2).");
        StripCloth x = Check.with("strip a: h1; strip b: a1 2(b199) h1; strip c: 4(50(a1 h1));");
        int[][] due = {{0, 1}, {1, 398}, {7, 1}};
        for (int block = 0; block < 3; block++) {
            for (int what = 0; what < 2; what++) {
                Check.due(x, "block(1, " + block + ", " + what + ")", x.block(1, block, what), due[block][what], 0);
            }
        }
        Check.due(x, "block(0, 0, 0)", x.block(0, 0, 0), 7, 0);
        Check.due(x, "block(0, 1, 0)", x.block(0, 1, 0), -1, 2);
        Check.due(x, "block(1, 3, 0)", x.block(1, 3, 0), -1, 2);
        Check.due(x, "block(2, 399, 0)", x.block(2, 399, 0), 7, 0);
        Check.due(x, "block(2, 400, 0)", x.block(2, 400, 0), -1, 2);
        for (int wrong : new int[] {-1, 400, LEAST, GREATEST}) {
            Check.due(x, "block(2, " + wrong + ", 1)", x.block(2, wrong, 1), -1, 2);
        }
        for (int wrong : new int[] {-1, 2, LEAST, GREATEST}) {
            Check.due(x, "block(1, 0, " + wrong + ")", x.block(1, 0, wrong), -1, 2);
        }
        for (int wrong : new int[] {-1, 3, 12, LEAST, GREATEST}) {
            Check.due(x, "block(" + wrong + ", 0, 0)", x.block(wrong, 0, 0), -1, 1);
            Check.due(x, "block(" + wrong + ", -1, 2)", x.block(wrong, -1, 2), -1, 1);
        }
    }
}
