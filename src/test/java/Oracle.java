import java.util.ArrayList;
import java.util.Arrays;
import java.util.List;
import java.util.regex.Matcher;
import java.util.regex.Pattern;

/** The document once more, in the plainest way: every search tries all there is. OracleTest compares with it. */
final class Oracle {
    private static final Pattern TOKEN = Pattern.compile("[a-z]+|[0-9]+|[();,+:]");

    private static final class Fault extends RuntimeException {
        private static final long serialVersionUID = 1;
        final int kind;
        final int place;

        Fault(int kind, int place) {
            this.kind = kind;
            this.place = place;
        }
    }

    private record Part(int strip, int shift, boolean turned) {
    }

    private record Right(int name, int rank, int from, int to, int told) {
    }

    int status = 0;
    private final StringBuilder tape = new StringBuilder();
    private int faultKind = -1;
    private int faultPlace = -1;
    private List<String> strips = new ArrayList<>();
    private List<Character> stripNames = new ArrayList<>();
    private List<List<Part>> cloths = new ArrayList<>();
    private List<Character> clothNames = new ArrayList<>();
    private int[] out = {};
    private int width = 100;
    private int takeUp = 8;
    private final List<int[]> lots = new ArrayList<>();
    private final List<Right> rights = new ArrayList<>();

    // the text that is being read
    private String text;
    private int place;
    private int next;
    private List<String> newStrips;
    private List<Character> newStripNames;
    private List<List<Part>> newCloths;
    private List<Character> newClothNames;

    private int no(int why) {
        status = why;
        return -1;
    }

    private int yes(int answer) {
        status = 0;
        return answer;
    }

    int feed(int a, int b, int c, int d, int e) {
        if (tape.length() + 20 > 800) {
            return -1;
        }
        for (int four : new int[] {a, b, c, d, e}) {
            for (int k = 3; k >= 0; k--) {
                tape.append((char) (four >>> 8 * k & 255));
            }
        }
        return tape.length();
    }

    int load(int n) {
        if (n < 0 || n > tape.length()) {
            return no(2);
        }
        text = tape.substring(0, n);
        tape.setLength(0);
        newStrips = new ArrayList<>();
        newStripNames = new ArrayList<>();
        newCloths = new ArrayList<>();
        newClothNames = new ArrayList<>();
        next = 0;
        try {
            readText();
        } catch (Fault f) {
            faultKind = f.kind;
            faultPlace = f.place;
            return no(4);
        }
        faultKind = 0;
        faultPlace = -1;
        strips = newStrips;
        stripNames = newStripNames;
        cloths = newCloths;
        clothNames = newClothNames;
        return yes(strips.size());
    }

    /** The next token, "" at the end. */
    private String take() {
        while (next < text.length() && (text.charAt(next) == 10 || text.charAt(next) == 32)) {
            next++;
        }
        place = next;
        if (next == text.length()) {
            return "";
        }
        Matcher m = TOKEN.matcher(text).region(next, text.length());
        if (!m.lookingAt() || m.group().matches("[0-9]{5,}")) {
            throw new Fault(1, place);
        }
        next = m.end();
        return m.group();
    }

    private String look() {
        int keptPlace = place;
        int keptNext = next;
        String token = take();
        next = keptNext;
        place = keptPlace;
        return token;
    }

    private String take(String form) {
        String token = take();
        if (!token.matches(form)) {
            throw new Fault(2, place);
        }
        return token;
    }

    private int number(int least, int most) {
        int n = Integer.parseInt(take("[0-9]+"));
        if (n < least || n > most) {
            throw new Fault(4, place);
        }
        return n;
    }

    private void readText() {
        while (!look().isEmpty()) {
            String word = take(newCloths.isEmpty() ? "strip|cloth" : "cloth");
            boolean strip = word.equals("strip");
            if (strip ? newStrips.size() == 12 : newCloths.size() == 6) {
                throw new Fault(3, place);
            }
            char name = take("[a-z]").charAt(0);
            List<Character> names = strip ? newStripNames : newClothNames;
            if (names.contains(name)) {
                throw new Fault(5, place);
            }
            take(":");
            if (strip) {
                newStrips.add(pieces(0, 0, ";"));
            } else {
                newCloths.add(parts());
            }
            names.add(name);
        }
    }

    /** What is told up to the closing token, with so many picks ahead of it. */
    private String pieces(int depth, int ahead, String close) {
        StringBuilder picks = new StringBuilder();
        do {
            picks.append(piece(depth, ahead + picks.length()));
        } while (look().matches("[a-h]|[0-9]+|turn"));
        String token = take();
        if (!token.equals(close)) {
            throw new Fault(2, place);
        }
        return picks.toString();
    }

    private String piece(int depth, int ahead) {
        String first = look();
        if (first.matches("[0-9]+")) {
            int n = number(2, 50);
            String inside = bracket(depth, ahead);
            if (ahead + n * inside.length() > 400) {
                throw new Fault(7, place);
            }
            return inside.repeat(n);
        }
        String word = take("turn|[a-h]");
        if (word.equals("turn")) {
            return new StringBuilder(bracket(depth, ahead)).reverse().toString();
        }
        int colourPlace = place;
        int n = number(1, 200);
        if (ahead + n > 400) {
            throw new Fault(7, colourPlace);
        }
        return word.repeat(n);
    }

    private String bracket(int depth, int ahead) {
        take("\\(");
        if (depth == 8) {
            throw new Fault(3, place);
        }
        return pieces(depth + 1, ahead, ")");
    }

    private List<Part> parts() {
        List<Part> parts = new ArrayList<>();
        String behind;
        do {
            String word = take("turn|[a-z]");
            if (parts.size() == 12) {
                throw new Fault(3, place);
            }
            boolean turned = word.equals("turn");
            String name = turned ? take("[a-z]") : word;
            int strip = newStripNames.indexOf(name.charAt(0));
            if (strip < 0) {
                throw new Fault(6, place);
            }
            behind = take("[+,;]");
            int shift = 0;
            if (behind.equals("+")) {
                shift = number(0, 50);
                behind = take("[,;]");
            }
            parts.add(new Part(strip, shift, turned));
        } while (behind.equals(","));
        return parts;
    }

    int fault(int what) {
        return what == 0 ? faultKind : what == 1 ? faultPlace : -1;
    }

    private boolean isStrip(int strip) {
        return strip >= 0 && strip < strips.size();
    }

    private boolean isCloth(int cloth) {
        return cloth >= 0 && cloth < cloths.size();
    }

    private boolean isPart(int cloth, int part) {
        return isCloth(cloth) && part >= 0 && part < cloths.get(cloth).size();
    }

    private List<String> blocks(int strip) {
        List<String> blocks = new ArrayList<>();
        Matcher m = Pattern.compile("(.)\\1*").matcher(strips.get(strip));
        while (m.find()) {
            blocks.add(m.group());
        }
        return blocks;
    }

    int strip(int strip, int what) {
        if (!isStrip(strip)) {
            return no(1);
        }
        if (what < 0 || what > 2) {
            return no(2);
        }
        int[] all = {stripNames.get(strip) - 'a', strips.get(strip).length(), blocks(strip).size()};
        return yes(all[what]);
    }

    int pick(int strip, int pick) {
        if (!isStrip(strip)) {
            return no(1);
        }
        if (pick < 0 || pick >= strips.get(strip).length()) {
            return no(2);
        }
        return yes(strips.get(strip).charAt(pick) - 'a');
    }

    int block(int strip, int block, int what) {
        if (!isStrip(strip)) {
            return no(1);
        }
        if (block < 0 || block >= blocks(strip).size() || what < 0 || what > 1) {
            return no(2);
        }
        String b = blocks(strip).get(block);
        return yes(what == 0 ? b.charAt(0) - 'a' : b.length());
    }

    /** From the top on, a blank where there is no colour. */
    private String column(Part p) {
        StringBuilder b = new StringBuilder(strips.get(p.strip));
        if (p.turned) {
            b.reverse();
        }
        String column = " ".repeat(p.shift) + b;
        return column + " ".repeat(500 - column.length());
    }

    private int alike(Part p, Part q) {
        String x = column(p);
        String y = column(q);
        int n = 0;
        for (int h = 0; h < 500; h++) {
            if (x.charAt(h) != ' ' && x.charAt(h) == y.charAt(h)) {
                n++;
            }
        }
        return n;
    }

    private int meets(Part p, Part q) {
        String x = column(p);
        String y = column(q);
        int n = 0;
        for (int h = 1; h < 500; h++) {
            boolean all = x.charAt(h - 1) != ' ' && y.charAt(h - 1) != ' ' && x.charAt(h) != ' ' && y.charAt(h) != ' ';
            if (all && x.charAt(h - 1) != x.charAt(h) && y.charAt(h - 1) != y.charAt(h)) {
                n++;
            }
        }
        return n;
    }

    private int value(Part p, Part q) {
        return 3 * meets(p, q) - alike(p, q);
    }

    private int end(Part p) {
        return p.shift + strips.get(p.strip).length();
    }

    int cloth(int cloth, int part, int what) {
        if (!isCloth(cloth) || part != -1 && !isPart(cloth, part)) {
            return no(1);
        }
        if (what < 0 || what > 3) {
            return no(2);
        }
        List<Part> parts = cloths.get(cloth);
        if (part >= 0) {
            Part p = parts.get(part);
            int[] all = {p.strip, p.shift, p.turned ? 1 : 0, end(p)};
            return yes(all[what]);
        }
        int highest = 0;
        int values = 0;
        for (int k = 0; k < parts.size(); k++) {
            highest = Math.max(highest, end(parts.get(k)));
            values += k == 0 ? 0 : value(parts.get(k - 1), parts.get(k));
        }
        int[] all = {clothNames.get(cloth) - 'a', parts.size(), highest, values};
        return yes(all[what]);
    }

    int at(int cloth, int part, int height) {
        if (!isPart(cloth, part)) {
            return no(1);
        }
        if (height < 0 || height > 499) {
            return no(2);
        }
        char c = column(cloths.get(cloth).get(part)).charAt(height);
        return yes(c == ' ' ? -1 : c - 'a');
    }

    int seam(int cloth, int seam, int what) {
        if (!isPart(cloth, seam) || seam + 1 >= cloths.get(cloth).size()) {
            return no(1);
        }
        if (what < 0 || what > 2) {
            return no(2);
        }
        Part p = cloths.get(cloth).get(seam);
        Part q = cloths.get(cloth).get(seam + 1);
        return yes(what == 0 ? alike(p, q) : what == 1 ? meets(p, q) : value(p, q));
    }

    // every search goes through its ways in the order in which the first counts, and keeps what is strictly better
    private int best;
    private int[] bestOut;

    /** How many ways shifts() would have to try, far above a million at the most. */
    double waysToShift(int cloth, int s) {
        return isCloth(cloth) && s >= 0 ? Math.pow(2 * s + 2, cloths.get(cloth).size()) : 1;
    }

    int shifts(int cloth, int s) {
        if (!isCloth(cloth)) {
            return no(1);
        }
        if (s < 0 || s > 20) {
            return no(2);
        }
        best = Integer.MIN_VALUE;
        List<Part> parts = cloths.get(cloth);
        int ways = 2 * s + 2;
        int[][][] values = new int[parts.size()][ways][ways];
        for (int k = 0; k + 1 < parts.size(); k++) {
            for (int i = 0; i < ways; i++) {
                for (int j = 0; j < ways; j++) {
                    values[k][i][j] = value(new Part(parts.get(k).strip, i / 2, i % 2 == 1),
                            new Part(parts.get(k + 1).strip, j / 2, j % 2 == 1));
                }
            }
        }
        tryShifts(values, ways, 0, 0, new int[parts.size()]);
        out = new int[parts.size()];
        for (int k = 0; k < out.length; k++) {
            out[k] = bestOut[k] / 2 + (bestOut[k] % 2 == 1 ? 100 : 0);
        }
        return yes(best);
    }

    private void tryShifts(int[][][] values, int ways, int k, int sum, int[] chosen) {
        if (k == chosen.length) {
            if (sum > best) {
                best = sum;
                bestOut = chosen.clone();
            }
            return;
        }
        for (int way = 0; way < ways; way++) {
            chosen[k] = way;
            tryShifts(values, ways, k + 1, k == 0 ? 0 : sum + values[k - 1][chosen[k - 1]][way], chosen);
        }
    }

    int order(int cloth) {
        if (!isCloth(cloth)) {
            return no(1);
        }
        List<Part> parts = cloths.get(cloth);
        if (parts.size() > 8) {
            return no(7);
        }
        int[][] values = new int[parts.size()][parts.size()];
        for (int i = 0; i < parts.size(); i++) {
            for (int j = 0; j < parts.size(); j++) {
                values[i][j] = value(parts.get(i), parts.get(j));
            }
        }
        best = Integer.MIN_VALUE;
        tryOrders(values, new ArrayList<>(), 0);
        out = bestOut;
        return yes(best);
    }

    private void tryOrders(int[][] values, List<Integer> placed, int sum) {
        if (placed.size() == values.length) {
            if (sum > best) {
                best = sum;
                bestOut = placed.stream().mapToInt(k -> k).toArray();
            }
            return;
        }
        for (int k = 0; k < values.length; k++) {
            if (!placed.contains(k)) {
                int more = placed.isEmpty() ? 0 : values[placed.get(placed.size() - 1)][k];
                placed.add(k);
                tryOrders(values, placed, sum + more);
                placed.remove(placed.size() - 1);
            }
        }
    }

    int out(int k) {
        return k < 0 || k >= out.length ? -1 : out[k];
    }

    boolean loom(int width, int takeUp) {
        if (width < 1 || width > 500 || takeUp < 0 || takeUp > 50) {
            status = 2;
            return false;
        }
        this.width = width;
        this.takeUp = takeUp;
        status = 0;
        return true;
    }

    private int need(int strip, int colour) {
        long picks = strips.get(strip).chars().filter(c -> c == 'a' + colour).count();
        return (int) Math.ceil(picks * width * (100 + takeUp) / 100.0);
    }

    int yarn(int strip, int colour) {
        if (!isStrip(strip)) {
            return no(1);
        }
        return colour < 0 || colour > 7 ? no(2) : yes(need(strip, colour));
    }

    int lot(int colour, int yarn) {
        if (colour < 0 || colour > 7 || yarn < 0 || yarn > 1000000) {
            return no(2);
        }
        if (lots.size() == 6) {
            return no(3);
        }
        lots.add(new int[] {colour, yarn});
        return yes(lots.size() - 1);
    }

    boolean stock(int lot, int yarn) {
        if (lot < 0 || lot >= lots.size()) {
            status = 1;
            return false;
        }
        if (yarn < 0 || yarn > 1000000) {
            status = 2;
            return false;
        }
        lots.get(lot)[1] = yarn;
        status = 0;
        return true;
    }

    int dye(int cloth, int colour) {
        if (!isCloth(cloth)) {
            return no(1);
        }
        if (colour < 0 || colour > 7) {
            return no(2);
        }
        int[] needs = cloths.get(cloth).stream().mapToInt(p -> need(p.strip, colour)).filter(n -> n > 0).toArray();
        if (needs.length == 0) {
            return no(5);
        }
        if (needs.length > 8) {
            return no(7);
        }
        best = Integer.MAX_VALUE;
        int[] left = lots.stream().mapToInt(l -> l[0] == colour ? l[1] : -1).toArray();
        tryLots(needs, left, 0, new int[needs.length]);
        if (best == Integer.MAX_VALUE) {
            return no(6);
        }
        out = bestOut;
        return yes(best);
    }

    private void tryLots(int[] needs, int[] left, int k, int[] chosen) {
        if (k == needs.length) {
            int used = (int) Arrays.stream(chosen).distinct().count();
            if (used < best) {
                best = used;
                bestOut = chosen.clone();
            }
            return;
        }
        for (int lot = 0; lot < left.length; lot++) {
            if (left[lot] >= needs[k]) {
                left[lot] -= needs[k];
                chosen[k] = lot;
                tryLots(needs, left, k + 1, chosen);
                left[lot] += needs[k];
            }
        }
    }

    int far(int a, int b) {
        if (!isStrip(a) || !isStrip(b)) {
            return no(1);
        }
        List<String> one = blocks(a);
        List<String> other = blocks(b);
        int[][] cost = new int[one.size() + 1][other.size() + 1];
        for (int i = one.size(); i >= 0; i--) {
            for (int j = other.size(); j >= 0; j--) {
                int least = i == one.size() && j == other.size() ? 0 : Integer.MAX_VALUE;
                if (i < one.size()) {
                    least = Math.min(least, one.get(i).length() + cost[i + 1][j]);
                }
                if (j < other.size()) {
                    least = Math.min(least, other.get(j).length() + cost[i][j + 1]);
                }
                if (i < one.size() && j < other.size()) {
                    int differ = Math.abs(one.get(i).length() - other.get(j).length());
                    int five = one.get(i).charAt(0) == other.get(j).charAt(0) ? 0 : 5;
                    least = Math.min(least, differ + five + cost[i + 1][j + 1]);
                }
                cost[i][j] = least;
            }
        }
        return yes(cost[0][0]);
    }

    private static boolean within(int n, int most) {
        return n >= 0 && n <= most;
    }

    boolean right(int name, int rank, int from, int to, int told) {
        status = 0;
        if (!within(name, 25) || !within(rank, 9) || !within(from, 9999) || !within(to, 9999) || !within(told, 9999)
                || from > to) {
            status = 2;
        } else if (rights.size() == 60) {
            status = 3;
        } else {
            rights.add(new Right(name, rank, from, to, told));
        }
        return status == 0;
    }

    int may(int name, int rank, int day, int known) {
        if (!within(name, 25) || !within(rank, 9) || !within(day, 9999) || !within(known, 9999)) {
            return no(2);
        }
        for (int told = known; told >= 0; told--) {
            for (int k = rights.size() - 1; k >= 0; k--) {
                Right r = rights.get(k);
                if (r.name == name && r.told == told && r.from <= day && day <= r.to) {
                    return yes(r.rank <= rank ? 1 : 0);
                }
            }
        }
        return yes(1);
    }
}
