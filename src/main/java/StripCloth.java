import java.util.Arrays;

/** A house of strip weavers. What each call promises stands in ../shared/DOC.md; its words are used here. */
public final class StripCloth {
    public static final int NONE = -1;

    private static final int MOST_BYTES = 800;
    private static final int MOST_STRIPS = 12;
    private static final int MOST_CLOTHS = 6;
    private static final int MOST_PARTS = 12;
    private static final int MOST_PICKS = 400;
    private static final int MOST_OF_A_PIECE = 200;
    private static final int FEWEST_TIMES = 2;
    private static final int MOST_TIMES = 50;
    private static final int MOST_BELOW_TOP = 50;
    private static final int MOST_DEPTH = 8;
    private static final int COLOURS = 8;
    private static final int NAMES = 26;
    private static final int HEIGHTS = 500;
    private static final int MOST_SHIFT = 20;
    private static final int TURNED_MARK = 100;
    private static final int MOST_SEARCHED_PARTS = 8;
    private static final int MOST_WIDTH = 500;
    private static final int MOST_TAKE_UP = 50;
    private static final int FIRST_WIDTH = 100;
    private static final int FIRST_TAKE_UP = 8;
    private static final int MOST_LOTS = 6;
    private static final int MOST_YARN = 1000000;
    private static final int OTHER_COLOUR_COST = 5;
    private static final int MOST_RIGHTS = 60;
    private static final int RANKS = 10;
    private static final int DAYS = 10000;

    private static final int DONE = 0;
    private static final int NO_SUCH = 1;
    private static final int BAD_NUMBER = 2;
    private static final int ONE_TOO_MANY = 3;
    private static final int FAULTY = 4;
    private static final int NO_COLOUR = 5;
    private static final int CANNOT_BE = 6;
    private static final int MANY_PARTS = 7;

    private int status;
    private final Reader reader;
    private Book book;
    private final SeamGauge gauge;
    private final BestShifts bestShifts;
    private final BestOrder bestOrder;
    private final DyeHouse dyeHouse;
    private final Rights rights;
    private final int[] farRow;
    private final int[] out;
    private int outLength;
    private int width;
    private int takeUp;

    public StripCloth() {
        status = DONE;
        reader = new Reader();
        book = new Book();
        gauge = new SeamGauge();
        bestShifts = new BestShifts();
        bestOrder = new BestOrder();
        dyeHouse = new DyeHouse();
        rights = new Rights();
        farRow = new int[MOST_PICKS + 1];
        out = new int[MOST_PARTS];
        outLength = 0;
        width = FIRST_WIDTH;
        takeUp = FIRST_TAKE_UP;
    }

    public int status() {
        return status;
    }

    public int feed(int a, int b, int c, int d, int e) {
        return reader.tape.add(a, b, c, d, e);
    }

    public int load(int n) {
        if (n < 0 || n > reader.tape.size) {
            return refuse(BAD_NUMBER);
        }
        Book told = reader.readBook(n);
        if (told == null) {
            return refuse(FAULTY);
        }
        book = told;
        return answer(told.stripCount);
    }

    public int fault(int what) {
        switch (what) {
            case 0:
                return reader.faultKind;
            case 1:
                return reader.faultPlace;
            default:
                return NONE;
        }
    }

    public int strip(int strip, int what) {
        Strip band = book.stripNumbered(strip);
        if (band == null) {
            return refuse(NO_SUCH);
        }
        switch (what) {
            case 0:
                return answer(band.name);
            case 1:
                return answer(band.picks.length);
            case 2:
                return answer(band.blockEnds.length);
            default:
                return refuse(BAD_NUMBER);
        }
    }

    public int pick(int strip, int pick) {
        Strip band = book.stripNumbered(strip);
        if (band == null) {
            return refuse(NO_SUCH);
        }
        if (pick < 0 || pick >= band.picks.length) {
            return refuse(BAD_NUMBER);
        }
        return answer(band.picks[pick]);
    }

    public int block(int strip, int block, int what) {
        Strip band = book.stripNumbered(strip);
        if (band == null) {
            return refuse(NO_SUCH);
        }
        if (block < 0 || block >= band.blockEnds.length) {
            return refuse(BAD_NUMBER);
        }
        switch (what) {
            case 0:
                return answer(band.blockColour(block));
            case 1:
                return answer(band.blockPicks(block));
            default:
                return refuse(BAD_NUMBER);
        }
    }

    public int cloth(int cloth, int part, int what) {
        Cloth sewn = book.clothNumbered(cloth);
        if (sewn == null) {
            return refuse(NO_SUCH);
        }
        if (part == NONE) {
            return tellCloth(sewn, what);
        }
        Part piece = sewn.partNumbered(part);
        if (piece == null) {
            return refuse(NO_SUCH);
        }
        return tellPart(piece, what);
    }

    public int at(int cloth, int part, int height) {
        Cloth sewn = book.clothNumbered(cloth);
        if (sewn == null) {
            return refuse(NO_SUCH);
        }
        Part piece = sewn.partNumbered(part);
        if (piece == null) {
            return refuse(NO_SUCH);
        }
        if (height < 0 || height >= HEIGHTS) {
            return refuse(BAD_NUMBER);
        }
        return answer(piece.colourAt(height));
    }

    public int seam(int cloth, int seam, int what) {
        Cloth sewn = book.clothNumbered(cloth);
        if (sewn == null || seam < 0 || seam >= sewn.size - 1) {
            return refuse(NO_SUCH);
        }
        if (what < 0 || what > 2) {
            return refuse(BAD_NUMBER);
        }
        gauge.measureParts(sewn.parts[seam], sewn.parts[seam + 1]);
        switch (what) {
            case 0:
                return answer(gauge.alike);
            case 1:
                return answer(gauge.meets);
            default:
                return answer(gauge.value());
        }
    }

    public int shifts(int cloth, int s) {
        Cloth sewn = book.clothNumbered(cloth);
        if (sewn == null) {
            return refuse(NO_SUCH);
        }
        if (s < 0 || s > MOST_SHIFT) {
            return refuse(BAD_NUMBER);
        }
        outLength = sewn.size;
        return answer(bestShifts.search(sewn, s, gauge, out));
    }

    public int order(int cloth) {
        Cloth sewn = book.clothNumbered(cloth);
        if (sewn == null) {
            return refuse(NO_SUCH);
        }
        if (sewn.size > MOST_SEARCHED_PARTS) {
            return refuse(MANY_PARTS);
        }
        outLength = sewn.size;
        return answer(bestOrder.search(sewn, gauge, out));
    }

    public int out(int k) {
        if (k < 0 || k >= outLength) {
            return NONE;
        }
        return out[k];
    }

    public boolean loom(int width, int takeUp) {
        if (width < 1 || width > MOST_WIDTH || takeUp < 0 || takeUp > MOST_TAKE_UP) {
            return deny(BAD_NUMBER);
        }
        this.width = width;
        this.takeUp = takeUp;
        return grant();
    }

    public int yarn(int strip, int colour) {
        Strip band = book.stripNumbered(strip);
        if (band == null) {
            return refuse(NO_SUCH);
        }
        if (isNoColour(colour)) {
            return refuse(BAD_NUMBER);
        }
        return answer(yarnFor(band, colour));
    }

    public int lot(int colour, int yarn) {
        if (isNoColour(colour) || isNoYarn(yarn)) {
            return refuse(BAD_NUMBER);
        }
        if (dyeHouse.lotCount >= MOST_LOTS) {
            return refuse(ONE_TOO_MANY);
        }
        return answer(dyeHouse.addLot(colour, yarn));
    }

    public boolean stock(int lot, int yarn) {
        if (lot < 0 || lot >= dyeHouse.lotCount) {
            return deny(NO_SUCH);
        }
        if (isNoYarn(yarn)) {
            return deny(BAD_NUMBER);
        }
        dyeHouse.lotYarn[lot] = yarn;
        return grant();
    }

    public int dye(int cloth, int colour) {
        Cloth sewn = book.clothNumbered(cloth);
        if (sewn == null) {
            return refuse(NO_SUCH);
        }
        if (isNoColour(colour)) {
            return refuse(BAD_NUMBER);
        }
        int parts = gatherNeeds(sewn, colour);
        if (parts == 0) {
            return refuse(NO_COLOUR);
        }
        if (parts > MOST_SEARCHED_PARTS) {
            return refuse(MANY_PARTS);
        }
        int used = dyeHouse.search(colour, parts, out);
        if (used == NONE) {
            return refuse(CANNOT_BE);
        }
        outLength = parts;
        return answer(used);
    }

    public int far(int a, int b) {
        Strip one = book.stripNumbered(a);
        Strip other = book.stripNumbered(b);
        if (one == null || other == null) {
            return refuse(NO_SUCH);
        }
        return answer(leastCost(one, other));
    }

    public boolean right(int name, int rank, int from, int to, int told) {
        if (isNoName(name) || isNoRank(rank) || isNoDay(from) || isNoDay(to) || from > to || isNoDay(told)) {
            return deny(BAD_NUMBER);
        }
        if (rights.count >= MOST_RIGHTS) {
            return deny(ONE_TOO_MANY);
        }
        rights.add(name, rank, from, to, told);
        return grant();
    }

    public int may(int name, int rank, int day, int known) {
        if (isNoName(name) || isNoRank(rank) || isNoDay(day) || isNoDay(known)) {
            return refuse(BAD_NUMBER);
        }
        return answer(rank >= rights.leastRank(name, day, known) ? 1 : 0);
    }

    private int answer(int given) {
        status = DONE;
        return given;
    }

    private int refuse(int why) {
        status = why;
        return NONE;
    }

    private boolean grant() {
        status = DONE;
        return true;
    }

    private boolean deny(int why) {
        status = why;
        return false;
    }

    private static boolean isNoColour(int colour) {
        return colour < 0 || colour >= COLOURS;
    }

    private static boolean isNoYarn(int yarn) {
        return yarn < 0 || yarn > MOST_YARN;
    }

    private static boolean isNoName(int name) {
        return name < 0 || name >= NAMES;
    }

    private static boolean isNoRank(int rank) {
        return rank < 0 || rank >= RANKS;
    }

    private static boolean isNoDay(int day) {
        return day < 0 || day >= DAYS;
    }

    private int tellCloth(Cloth sewn, int what) {
        switch (what) {
            case 0:
                return answer(sewn.name);
            case 1:
                return answer(sewn.size);
            case 2:
                return answer(sewn.greatestHeight());
            case 3:
                return answer(gauge.valueOfAll(sewn));
            default:
                return refuse(BAD_NUMBER);
        }
    }

    private int tellPart(Part piece, int what) {
        switch (what) {
            case 0:
                return answer(piece.number);
            case 1:
                return answer(piece.shift);
            case 2:
                return answer(piece.turned ? 1 : 0);
            case 3:
                return answer(piece.endHeight());
            default:
                return refuse(BAD_NUMBER);
        }
    }

    private int yarnFor(Strip band, int colour) {
        int hundredths = band.picksOf(colour) * width * (100 + takeUp);
        return (hundredths + 99) / 100;
    }

    /** How many PARTS have the COLOUR; what the first eight of them need stands at the dye house then. */
    private int gatherNeeds(Cloth sewn, int colour) {
        int parts = 0;
        for (int p = 0; p < sewn.size; p++) {
            int need = yarnFor(sewn.parts[p].band, colour);
            if (need > 0) {
                if (parts < MOST_SEARCHED_PARTS) {
                    dyeHouse.needs[parts] = need;
                }
                parts++;
            }
        }
        return parts;
    }

    private int leastCost(Strip one, Strip other) {
        int blocks = other.blockEnds.length;
        farRow[0] = 0;
        for (int j = 0; j < blocks; j++) {
            farRow[j + 1] = farRow[j] + other.blockPicks(j);
        }
        for (int i = 0; i < one.blockEnds.length; i++) {
            addBlockToFarRow(one.blockColour(i), one.blockPicks(i), other);
        }
        return farRow[blocks];
    }

    /** One row serves for the whole table: what stood askew above is kept aside as the row is written over. */
    private void addBlockToFarRow(int colour, int picks, Strip other) {
        int askew = farRow[0];
        farRow[0] = askew + picks;
        for (int j = 0; j < other.blockEnds.length; j++) {
            int otherPicks = other.blockPicks(j);
            int become = askew + Math.abs(picks - otherPicks);
            if (colour != other.blockColour(j)) {
                become += OTHER_COLOUR_COST;
            }
            askew = farRow[j + 1];
            int leaveOrPut = Math.min(askew + picks, farRow[j] + otherPicks);
            farRow[j + 1] = Math.min(become, leaveOrPut);
        }
    }

    /** A STRIP: its PICKS from the top on, and behind which PICK each of its BLOCKS ends. */
    private static final class Strip {
        final int name;
        final byte[] picks;
        final int[] blockEnds;

        Strip(int name, byte[] woven, int size) {
            this.name = name;
            picks = Arrays.copyOf(woven, size);
            blockEnds = endsOfBlocks(picks);
        }

        private static int[] endsOfBlocks(byte[] picks) {
            int[] ends = new int[countBlocks(picks)];
            int block = 0;
            for (int p = 0; p < picks.length; p++) {
                if (endsBlock(picks, p) && block < ends.length) {
                    ends[block] = p + 1;
                    block++;
                }
            }
            return ends;
        }

        private static int countBlocks(byte[] picks) {
            int blocks = 0;
            for (int p = 0; p < picks.length; p++) {
                if (endsBlock(picks, p)) {
                    blocks++;
                }
            }
            return blocks;
        }

        private static boolean endsBlock(byte[] picks, int p) {
            return p + 1 >= picks.length || picks[p] != picks[p + 1];
        }

        int blockColour(int block) {
            return picks[blockEnds[block] - 1];
        }

        int blockPicks(int block) {
            return block == 0 ? blockEnds[0] : blockEnds[block] - blockEnds[block - 1];
        }

        int picksOf(int colour) {
            int count = 0;
            for (int p = 0; p < picks.length; p++) {
                if (picks[p] == colour) {
                    count++;
                }
            }
            return count;
        }
    }

    /** A PART of a CLOTH; number is the one that its STRIP has. */
    private static final class Part {
        final Strip band;
        final int number;
        final boolean turned;
        final int shift;

        Part(Strip band, int number, boolean turned, int shift) {
            this.band = band;
            this.number = number;
            this.turned = turned;
            this.shift = shift;
        }

        int endHeight() {
            return shift + band.picks.length;
        }

        int colourAt(int height) {
            if (height < shift || height >= endHeight()) {
                return NONE;
            }
            return turned ? band.picks[endHeight() - 1 - height] : band.picks[height - shift];
        }
    }

    /** A CLOTH: the first of its parts, as many as size says. */
    private static final class Cloth {
        final int name;
        final Part[] parts;
        int size;

        Cloth(int name) {
            this.name = name;
            parts = new Part[MOST_PARTS];
            size = 0;
        }

        void add(Part part) {
            if (size < parts.length) {
                parts[size] = part;
                size++;
            }
        }

        Part partNumbered(int part) {
            return part < 0 || part >= size ? null : parts[part];
        }

        int greatestHeight() {
            int greatest = 0;
            for (int p = 0; p < size; p++) {
                greatest = Math.max(greatest, parts[p].endHeight());
            }
            return greatest;
        }
    }

    /** The STRIPS and CLOTHS of one TEXT. */
    private static final class Book {
        final Strip[] strips;
        int stripCount;
        final Cloth[] cloths;
        int clothCount;

        Book() {
            strips = new Strip[MOST_STRIPS];
            stripCount = 0;
            cloths = new Cloth[MOST_CLOTHS];
            clothCount = 0;
        }

        void addStrip(Strip band) {
            if (stripCount < strips.length) {
                strips[stripCount] = band;
                stripCount++;
            }
        }

        void addCloth(Cloth sewn) {
            if (clothCount < cloths.length) {
                cloths[clothCount] = sewn;
                clothCount++;
            }
        }

        Strip stripNumbered(int strip) {
            return strip < 0 || strip >= stripCount ? null : strips[strip];
        }

        Cloth clothNumbered(int cloth) {
            return cloth < 0 || cloth >= clothCount ? null : cloths[cloth];
        }

        int findStrip(int name) {
            for (int k = 0; k < stripCount; k++) {
                if (strips[k].name == name) {
                    return k;
                }
            }
            return NONE;
        }

        int findCloth(int name) {
            for (int k = 0; k < clothCount; k++) {
                if (cloths[k].name == name) {
                    return k;
                }
            }
            return NONE;
        }
    }

    /** The bytes that were fed, and the TOKENS along the first of them, one at a time. */
    private static final class Tape {
        static final int END = 0;
        static final int WORD = 1;
        static final int NUMBER = 2;
        static final int SIGN = 3;
        static final int NO_TOKEN = 4;
        private static final int BLANK = 5;

        private static final int MOST_DIGITS = 4;
        private static final int LINE_END = 10;

        private final byte[] bytes;
        int size;
        private int textEnd;
        private int next;
        int kind;
        int place;

        Tape() {
            bytes = new byte[MOST_BYTES];
            size = 0;
            textEnd = 0;
            next = 0;
            kind = END;
            place = 0;
        }

        int add(int a, int b, int c, int d, int e) {
            if (size + 20 > bytes.length) {
                return NONE;
            }
            addWhole(a);
            addWhole(b);
            addWhole(c);
            addWhole(d);
            addWhole(e);
            return size;
        }

        private void addWhole(int four) {
            for (int bits = 24; bits >= 0 && size < bytes.length; bits -= 8) {
                bytes[size] = (byte) (four >> bits);
                size++;
            }
        }

        void begin(int textLength) {
            textEnd = Math.min(textLength, size);
            next = 0;
        }

        void clear() {
            size = 0;
        }

        /** The next TOKEN is the one that is read now. */
        void step() {
            while (next < textEnd && kindOf(bytes[next]) == BLANK) {
                next++;
            }
            place = next;
            if (next >= textEnd) {
                kind = END;
                return;
            }
            kind = kindOf(bytes[next]);
            next++;
            boolean goesOn = kind == WORD || kind == NUMBER;
            while (goesOn && next < textEnd && kindOf(bytes[next]) == kind) {
                next++;
            }
            if (kind == NUMBER && next - place > MOST_DIGITS) {
                kind = NO_TOKEN;
            }
        }

        /** Which kind of TOKEN begins with that byte, or goes on with it. */
        private static int kindOf(int c) {
            if (c >= 'a' && c <= 'z') {
                return WORD;
            }
            if (c >= '0' && c <= '9') {
                return NUMBER;
            }
            switch (c) {
                case ' ':
                case LINE_END:
                    return BLANK;
                case '(':
                case ')':
                case ';':
                case ',':
                case '+':
                case ':':
                    return SIGN;
                default:
                    return NO_TOKEN;
            }
        }

        boolean isSign(int sign) {
            return kind == SIGN && bytes[place] == sign;
        }

        boolean isWord(String word) {
            if (kind != WORD || next - place != word.length()) {
                return false;
            }
            for (int k = 0; k < word.length(); k++) {
                if (bytes[place + k] != word.charAt(k)) {
                    return false;
                }
            }
            return true;
        }

        boolean isName() {
            return kind == WORD && next - place == 1;
        }

        boolean isColour() {
            return isName() && letter() < COLOURS;
        }

        /** Of a NAME or a COLOUR: 0 for a. */
        int letter() {
            return kind == WORD ? bytes[place] - 'a' : NONE;
        }

        /** Of a NUMBER: how much it is. */
        int number() {
            int sum = 0;
            for (int k = place; k < next && kind == NUMBER; k++) {
                sum = sum * 10 + (bytes[k] - '0');
            }
            return sum;
        }
    }

    /** The PICKS of the STRIP that is being told, with the pieces in ( ) that are still open. */
    private static final class Weave {
        static final int TURN = 0;

        final byte[] picks;
        int size;
        private final int[] starts;
        private final int[] times;
        int depth;

        Weave() {
            picks = new byte[MOST_PICKS];
            size = 0;
            starts = new int[MOST_DEPTH];
            times = new int[MOST_DEPTH];
            depth = 0;
        }

        void begin() {
            size = 0;
            depth = 0;
        }

        boolean add(int colour, int count) {
            if (count < 0 || count > picks.length - size) {
                return false;
            }
            for (int k = 0; k < count; k++) {
                picks[size + k] = (byte) colour;
            }
            size += count;
            return true;
        }

        boolean open(int howOften) {
            if (depth >= starts.length) {
                return false;
            }
            starts[depth] = size;
            times[depth] = howOften;
            depth++;
            return true;
        }

        boolean close() {
            if (depth <= 0) {
                return false;
            }
            depth--;
            if (times[depth] == TURN) {
                turnFrom(starts[depth]);
                return true;
            }
            return repeatFrom(starts[depth], times[depth]);
        }

        private void turnFrom(int start) {
            int high = size - 1;
            for (int low = start; low < high; low++) {
                byte kept = picks[low];
                picks[low] = picks[high];
                picks[high] = kept;
                high--;
            }
        }

        private boolean repeatFrom(int start, int howOften) {
            int length = size - start;
            int end = start + length * howOften;
            if (end > picks.length) {
                return false;
            }
            for (int k = size; k < end; k++) {
                picks[k] = picks[k - length];
            }
            size = end;
            return true;
        }
    }

    /** Reads a TEXT to a Book. The methods that answer boolean answer false once a FAULT is found. */
    private static final class Reader {
        private static final int NOT_A_TOKEN = 1;
        private static final int CANNOT_STAND = 2;
        private static final int TOO_MANY = 3;
        private static final int WRONG_NUMBER = 4;
        private static final int NAMED_ALREADY = 5;
        private static final int NOT_TOLD = 6;
        private static final int TOO_MANY_PICKS = 7;

        final Tape tape;
        int faultKind;
        int faultPlace;
        private final Weave weave;

        Reader() {
            tape = new Tape();
            weave = new Weave();
            faultKind = NONE;
            faultPlace = NONE;
        }

        /** The Book that the first n bytes of the tape tell; null with a FAULT. */
        Book readBook(int n) {
            tape.begin(n);
            faultKind = 0;
            faultPlace = NONE;
            Book told = new Book();
            boolean more = true;
            for (int k = 0; k <= MOST_BYTES && more; k++) {
                tape.step();
                if (tape.kind == Tape.END) {
                    more = false;
                } else if (tape.isWord("strip") && told.clothCount == 0) {
                    more = readStrip(told);
                } else if (tape.isWord("cloth")) {
                    more = readCloth(told);
                } else {
                    more = cannotStand();
                }
            }
            tape.clear();
            return faultKind == 0 ? told : null;
        }

        private boolean readStrip(Book told) {
            if (told.stripCount >= MOST_STRIPS) {
                return refuseHere(TOO_MANY);
            }
            if (!readName()) {
                return false;
            }
            int name = tape.letter();
            if (told.findStrip(name) != NONE) {
                return refuseHere(NAMED_ALREADY);
            }
            if (!readSign(':') || !readPieces()) {
                return false;
            }
            told.addStrip(new Strip(name, weave.picks, weave.size));
            return true;
        }

        /** All PIECES of a STRIP and the ; behind them. */
        private boolean readPieces() {
            weave.begin();
            boolean hasPiece = false;
            for (int k = 0; k <= MOST_BYTES; k++) {
                tape.step();
                if (tape.isColour()) {
                    if (!readColouredPicks()) {
                        return false;
                    }
                    hasPiece = true;
                } else if (tape.kind == Tape.NUMBER || tape.isWord("turn")) {
                    if (!readOpening()) {
                        return false;
                    }
                    hasPiece = false;
                } else if (tape.isSign(')') && weave.depth > 0 && hasPiece) {
                    if (!weave.close()) {
                        return refuseHere(TOO_MANY_PICKS);
                    }
                } else {
                    boolean ended = tape.isSign(';') && weave.depth == 0 && hasPiece;
                    return ended || cannotStand();
                }
            }
            return cannotStand();
        }

        private boolean readColouredPicks() {
            int colour = tape.letter();
            int colourPlace = tape.place;
            if (!readNumber(1, MOST_OF_A_PIECE)) {
                return false;
            }
            return weave.add(colour, tape.number()) || refuse(TOO_MANY_PICKS, colourPlace);
        }

        /** NUMBER ( or turn (, of which the first TOKEN has been read. */
        private boolean readOpening() {
            int times = Weave.TURN;
            if (tape.kind == Tape.NUMBER) {
                times = tape.number();
                if (times < FEWEST_TIMES || times > MOST_TIMES) {
                    return refuseHere(WRONG_NUMBER);
                }
            }
            if (!readSign('(')) {
                return false;
            }
            return weave.open(times) || refuseHere(TOO_MANY);
        }

        private boolean readCloth(Book told) {
            if (told.clothCount >= MOST_CLOTHS) {
                return refuseHere(TOO_MANY);
            }
            if (!readName()) {
                return false;
            }
            int name = tape.letter();
            if (told.findCloth(name) != NONE) {
                return refuseHere(NAMED_ALREADY);
            }
            Cloth sewn = new Cloth(name);
            if (!readSign(':') || !readParts(told, sewn)) {
                return false;
            }
            told.addCloth(sewn);
            return true;
        }

        /** All PARTS of a CLOTH and the ; behind them. */
        private boolean readParts(Book told, Cloth sewn) {
            for (int k = 0; k <= MOST_PARTS; k++) {
                tape.step();
                if (!tape.isName() && !tape.isWord("turn")) {
                    return cannotStand();
                }
                if (sewn.size >= MOST_PARTS) {
                    return refuseHere(TOO_MANY);
                }
                if (!readPart(told, sewn)) {
                    return false;
                }
                if (tape.isSign(';')) {
                    return true;
                }
                if (!tape.isSign(',')) {
                    return cannotStand();
                }
            }
            return cannotStand();
        }

        /** A PART, of which the first TOKEN has been read; the TOKEN behind it has been read then. */
        private boolean readPart(Book told, Cloth sewn) {
            boolean turned = tape.isWord("turn");
            if (turned && !readName()) {
                return false;
            }
            int number = told.findStrip(tape.letter());
            Strip band = told.stripNumbered(number);
            if (band == null) {
                return refuseHere(NOT_TOLD);
            }
            int shift = 0;
            tape.step();
            if (tape.isSign('+')) {
                if (!readNumber(0, MOST_BELOW_TOP)) {
                    return false;
                }
                shift = tape.number();
                tape.step();
            }
            sewn.add(new Part(band, number, turned, shift));
            return true;
        }

        private boolean readName() {
            tape.step();
            return tape.isName() || cannotStand();
        }

        private boolean readSign(int sign) {
            tape.step();
            return tape.isSign(sign) || cannotStand();
        }

        private boolean readNumber(int least, int most) {
            tape.step();
            if (tape.kind != Tape.NUMBER) {
                return cannotStand();
            }
            int number = tape.number();
            return number >= least && number <= most || refuseHere(WRONG_NUMBER);
        }

        private boolean cannotStand() {
            return refuse(tape.kind == Tape.NO_TOKEN ? NOT_A_TOKEN : CANNOT_STAND, tape.place);
        }

        private boolean refuseHere(int kind) {
            return refuse(kind, tape.place);
        }

        private boolean refuse(int kind, int place) {
            faultKind = kind;
            faultPlace = place;
            return false;
        }
    }

    /** Measures a SEAM: how two STRIPS side by side meet. */
    private static final class SeamGauge {
        private static final int VALUE_OF_MEETING = 3;

        int alike;
        int meets;

        SeamGauge() {
            alike = 0;
            meets = 0;
        }

        /** The second STRIP begins so many PICKS below the first one's beginning (above it, if drop is below 0). */
        void measure(Strip one, boolean oneTurned, Strip other, boolean otherTurned, int drop) {
            alike = 0;
            meets = 0;
            int oneLength = one.picks.length;
            int otherLength = other.picks.length;
            int from = Math.max(0, drop);
            int to = Math.min(oneLength, drop + otherLength);
            int oneStep = oneTurned ? -1 : 1;
            int otherStep = otherTurned ? -1 : 1;
            int i = oneTurned ? oneLength - 1 - from : from;
            int j = otherTurned ? otherLength - 1 - (from - drop) : from - drop;
            int oneAhead = NONE;
            int otherAhead = NONE;
            for (int height = from; height < to; height++) {
                int oneColour = one.picks[i];
                int otherColour = other.picks[j];
                if (oneColour == otherColour) {
                    alike++;
                }
                if (height > from && oneColour != oneAhead && otherColour != otherAhead) {
                    meets++;
                }
                oneAhead = oneColour;
                otherAhead = otherColour;
                i += oneStep;
                j += otherStep;
            }
        }

        void measureParts(Part one, Part other) {
            measure(one.band, one.turned, other.band, other.turned, other.shift - one.shift);
        }

        int value() {
            return VALUE_OF_MEETING * meets - alike;
        }

        int valueOfAll(Cloth sewn) {
            int sum = 0;
            for (int p = 0; p + 1 < sewn.size; p++) {
                measureParts(sewn.parts[p], sewn.parts[p + 1]);
                sum += value();
            }
            return sum;
        }
    }

    /**
     * BEST SHIFTS, from the last PART to the first. A way of a PART is twice its shift, and 1 more if it is turned,
     * so that the lesser way is the one that goes ahead.
     */
    private static final class BestShifts {
        private static final int WAYS = 2 * (MOST_SHIFT + 1);
        private static final int DROPS = 2 * MOST_SHIFT + 1;

        private final int[] seamValues;
        private final int[] valueBehind;
        private final int[] valueFrom;
        private final int[] nextWay;

        BestShifts() {
            seamValues = new int[4 * DROPS];
            valueBehind = new int[WAYS];
            valueFrom = new int[WAYS];
            nextWay = new int[MOST_PARTS * WAYS];
        }

        int search(Cloth sewn, int s, SeamGauge gauge, int[] out) {
            int ways = 2 * (s + 1);
            Arrays.fill(valueFrom, 0);
            for (int p = sewn.size - 2; p >= 0; p--) {
                System.arraycopy(valueFrom, 0, valueBehind, 0, WAYS);
                measureSeam(sewn.parts[p].band, sewn.parts[p + 1].band, s, gauge);
                for (int way = 0; way < ways; way++) {
                    chooseNext(p, way, ways);
                }
            }
            int first = 0;
            for (int way = 1; way < ways; way++) {
                if (valueFrom[way] > valueFrom[first]) {
                    first = way;
                }
            }
            tellWays(sewn.size, first, out);
            return valueFrom[first];
        }

        /** A SEAM's VALUE depends on both shifts by their difference alone. */
        private void measureSeam(Strip one, Strip other, int s, SeamGauge gauge) {
            for (int turns = 0; turns < 4; turns++) {
                for (int drop = -s; drop <= s; drop++) {
                    gauge.measure(one, turns >= 2, other, turns % 2 == 1, drop);
                    seamValues[turns * DROPS + drop + MOST_SHIFT] = gauge.value();
                }
            }
        }

        private void chooseNext(int part, int way, int ways) {
            int best = NONE;
            int bestValue = 0;
            for (int next = 0; next < ways; next++) {
                int turns = way % 2 * 2 + next % 2;
                int drop = next / 2 - way / 2;
                int value = seamValues[turns * DROPS + drop + MOST_SHIFT] + valueBehind[next];
                if (best == NONE || value > bestValue) {
                    bestValue = value;
                    best = next;
                }
            }
            valueFrom[way] = bestValue;
            nextWay[part * WAYS + way] = best;
        }

        private void tellWays(int parts, int first, int[] out) {
            int way = first;
            for (int p = 0; p < parts && p < out.length; p++) {
                out[p] = way / 2 + way % 2 * TURNED_MARK;
                way = nextWay[p * WAYS + way];
            }
        }
    }

    /** BEST ORDER, by which PARTS are placed (a bit each) and which of them is the last one. */
    private static final class BestOrder {
        private final int[] pairValues;
        private final int[] valueBehind;

        BestOrder() {
            pairValues = new int[MOST_SEARCHED_PARTS * MOST_SEARCHED_PARTS];
            valueBehind = new int[MOST_SEARCHED_PARTS << MOST_SEARCHED_PARTS];
        }

        int search(Cloth sewn, SeamGauge gauge, int[] out) {
            int parts = Math.min(sewn.size, MOST_SEARCHED_PARTS);
            measurePairs(sewn, parts, gauge);
            int all = (1 << parts) - 1;
            for (int placed = all; placed > 0; placed--) {
                for (int last = 0; last < parts; last++) {
                    if ((placed >> last & 1) == 1) {
                        int next = bestNext(placed, last, parts);
                        valueBehind[placed * MOST_SEARCHED_PARTS + last] =
                                next == NONE ? 0 : valueWithNext(placed, last, next);
                    }
                }
            }
            int first = 0;
            for (int part = 1; part < parts; part++) {
                if (valueOfStart(part) > valueOfStart(first)) {
                    first = part;
                }
            }
            tellOrder(parts, first, out);
            return valueOfStart(first);
        }

        private void measurePairs(Cloth sewn, int parts, SeamGauge gauge) {
            for (int one = 0; one < parts; one++) {
                for (int other = 0; other < parts; other++) {
                    gauge.measureParts(sewn.parts[one], sewn.parts[other]);
                    pairValues[one * MOST_SEARCHED_PARTS + other] = gauge.value();
                }
            }
        }

        /** The first PART of those with which most is to be had; NONE if all are placed. */
        private int bestNext(int placed, int last, int parts) {
            int best = NONE;
            int bestValue = 0;
            for (int next = 0; next < parts; next++) {
                if ((placed >> next & 1) == 0) {
                    int value = valueWithNext(placed, last, next);
                    if (best == NONE || value > bestValue) {
                        best = next;
                        bestValue = value;
                    }
                }
            }
            return best;
        }

        private int valueWithNext(int placed, int last, int next) {
            int then = placed | 1 << next;
            return pairValues[last * MOST_SEARCHED_PARTS + next] + valueBehind[then * MOST_SEARCHED_PARTS + next];
        }

        private int valueOfStart(int part) {
            return valueBehind[(1 << part) * MOST_SEARCHED_PARTS + part];
        }

        private void tellOrder(int parts, int first, int[] out) {
            int placed = 0;
            int part = first;
            for (int k = 0; k < parts && k < out.length && part != NONE; k++) {
                out[k] = part;
                placed |= 1 << part;
                part = bestNext(placed, part, parts);
            }
        }
    }

    /**
     * The LOTS, and the search for BEST DYEING. A dyeing is one number: how many LOTS it uses above, below it the LOT
     * of each PART in three bits, the first PART's highest; so the least number is the best dyeing, and each LOT
     * adds its own share to it.
     */
    private static final class DyeHouse {
        private static final int BITS = 3;
        private static final int ONE_LOT = 1 << BITS * MOST_SEARCHED_PARTS;
        private static final int SETS = 1 << MOST_SEARCHED_PARTS;
        private static final int NO_WAY = 0x7fffffff;

        final int[] lotColour;
        final int[] lotYarn;
        int lotCount;
        final int[] needs;
        private final int[] needOfSet;
        private final int[] digitsOfSet;
        private final int[] bestOfSet;

        DyeHouse() {
            lotColour = new int[MOST_LOTS];
            lotYarn = new int[MOST_LOTS];
            lotCount = 0;
            needs = new int[MOST_SEARCHED_PARTS];
            needOfSet = new int[SETS];
            digitsOfSet = new int[SETS];
            bestOfSet = new int[SETS];
        }

        int addLot(int colour, int yarn) {
            if (lotCount >= MOST_LOTS) {
                return NONE;
            }
            lotColour[lotCount] = colour;
            lotYarn[lotCount] = yarn;
            lotCount++;
            return lotCount - 1;
        }

        /** How many LOTS the best dyeing of the first so many needs uses; NONE if there is none, and out stays then. */
        int search(int colour, int parts, int[] out) {
            if (parts < 0 || parts > MOST_SEARCHED_PARTS || parts > out.length) {
                return NONE;
            }
            int all = (1 << parts) - 1;
            prepareSets(parts);
            for (int lot = 0; lot < lotCount; lot++) {
                if (lotColour[lot] == colour) {
                    useLot(lot, all);
                }
            }
            int best = bestOfSet[all];
            if (best == NO_WAY) {
                return NONE;
            }
            for (int p = 0; p < parts; p++) {
                out[p] = best >> BITS * (MOST_SEARCHED_PARTS - 1 - p) & (1 << BITS) - 1;
            }
            return best / ONE_LOT;
        }

        private void prepareSets(int parts) {
            needOfSet[0] = 0;
            digitsOfSet[0] = 0;
            bestOfSet[0] = 0;
            for (int p = 0; p < parts; p++) {
                int digit = 1 << BITS * (MOST_SEARCHED_PARTS - 1 - p);
                int bit = 1 << p;
                for (int set = 0; set < bit; set++) {
                    needOfSet[bit + set] = needOfSet[set] + needs[p];
                    digitsOfSet[bit + set] = digitsOfSet[set] + digit;
                    bestOfSet[bit + set] = NO_WAY;
                }
            }
        }

        /** Sets come from the greatest down, so that what a LOT is given never counts on the same LOT again. */
        private void useLot(int lot, int all) {
            for (int set = all; set > 0; set--) {
                for (int given = set; given > 0; given = given - 1 & set) {
                    int before = bestOfSet[set - given];
                    if (needOfSet[given] <= lotYarn[lot] && before != NO_WAY) {
                        int now = before + ONE_LOT + lot * digitsOfSet[given];
                        bestOfSet[set] = Math.min(bestOfSet[set], now);
                    }
                }
            }
        }
    }

    /** The RIGHTS, as they came. */
    private static final class Rights {
        private final int[] names;
        private final int[] ranks;
        private final int[] firstDays;
        private final int[] lastDays;
        private final int[] toldDays;
        int count;

        Rights() {
            names = new int[MOST_RIGHTS];
            ranks = new int[MOST_RIGHTS];
            firstDays = new int[MOST_RIGHTS];
            lastDays = new int[MOST_RIGHTS];
            toldDays = new int[MOST_RIGHTS];
            count = 0;
        }

        void add(int name, int rank, int from, int to, int told) {
            if (count < MOST_RIGHTS) {
                names[count] = name;
                ranks[count] = rank;
                firstDays[count] = from;
                lastDays[count] = to;
                toldDays[count] = told;
                count++;
            }
        }

        /** The RANK from which on a NAME may be worn on a day, as known on a day: the least of all where no RIGHT is. */
        int leastRank(int name, int day, int known) {
            int rank = 0;
            int latest = NONE;
            for (int k = 0; k < count; k++) {
                boolean holds = names[k] == name && firstDays[k] <= day && day <= lastDays[k];
                if (holds && toldDays[k] <= known && toldDays[k] >= latest) {
                    latest = toldDays[k];
                    rank = ranks[k];
                }
            }
            return rank;
        }
    }
}
