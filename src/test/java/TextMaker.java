import java.util.Random;

/** Makes texts of the document's language by chance, most of them right, some with a fault put in. */
final class TextMaker {
    private static final String[] ODD = {"(", ")", ";", ",", "+", ":", "turn", "strip", "cloth", "0", "1", "2", "50", "51",
        "200", "201", "12345", "a", "h", "i", "z", "ab", "A", "-", "\t", "\n", " ", "\u00ff", "\0", "2(", "turn(", "a200"};

    private final Random random;
    private final StringBuilder text = new StringBuilder();
    private String names = "";

    TextMaker(Random random) {
        this.random = random;
    }

    String text() {
        int strips = random.nextInt(12) == 0 ? 10 + random.nextInt(4) : random.nextInt(6);
        for (int k = 0; k < strips; k++) {
            strip(strips > 9);
        }
        int cloths = strips == 0 ? 0 : random.nextInt(12) == 0 ? 5 + random.nextInt(3) : random.nextInt(4);
        for (int k = 0; k < cloths; k++) {
            cloth(k, cloths > 4);
        }
        if (random.nextInt(3) == 0) {
            putOddIn();
        }
        return text.toString();
    }

    private void gap() {
        if (random.nextInt(3) == 0) {
            text.append(random.nextInt(8) == 0 ? '\n' : ' ');
        }
    }

    private void strip(boolean small) {
        char name = (char) ('a' + (random.nextInt(9) == 0 ? random.nextInt(26) : names.length()));
        names += name;
        text.append("strip ").append(name);
        gap();
        text.append(':');
        int from = text.length();
        pieces(small ? 9 : 0, small ? 1 : 1 + random.nextInt(4));
        if (!small && text.length() - from > 70) {
            text.setLength(from);
            text.append("a2b1c3");
        }
        text.append(';');
        gap();
    }

    private void pieces(int depth, int count) {
        for (int k = 0; k < count; k++) {
            gap();
            int kind = depth > 8 ? 9 : random.nextInt(10);
            if (kind == 0) {
                text.append("turn");
                bracket(depth);
            } else if (kind == 1) {
                int times = random.nextInt(9) == 0 ? random.nextInt(60) : 2 + random.nextInt(3);
                text.append(times);
                bracket(depth);
            } else {
                text.append((char) ('a' + random.nextInt(random.nextInt(9) == 0 ? 8 : 3)));
                gap();
                text.append(random.nextInt(15) == 0 ? 1 + random.nextInt(200) : 1 + random.nextInt(4));
            }
        }
    }

    private void bracket(int depth) {
        gap();
        text.append('(');
        if (random.nextInt(12) == 0 && depth < 8) {
            text.append("turn");
            bracket(depth + 1);
        } else {
            pieces(depth + 1, 1 + random.nextInt(3));
        }
        text.append(')');
    }

    private void cloth(int number, boolean small) {
        char name = (char) ('a' + (random.nextInt(20) == 0 ? random.nextInt(26) : number));
        text.append("cloth ").append(name).append(':');
        int parts = small ? 1 : random.nextInt(7) == 0 ? 8 + random.nextInt(6) : 1 + random.nextInt(5);
        for (int k = 0; k < parts; k++) {
            if (k > 0) {
                text.append(',');
            }
            gap();
            if (random.nextInt(4) == 0) {
                text.append("turn ");
            }
            text.append(names.charAt(random.nextInt(names.length())));
            gap();
            if (random.nextInt(3) == 0) {
                text.append('+');
                gap();
                text.append(random.nextInt(15) == 0 ? random.nextInt(60) : random.nextInt(4));
            }
        }
        text.append(';');
        gap();
    }

    private void putOddIn() {
        int place = random.nextInt(text.length() + 1);
        switch (random.nextInt(4)) {
            case 0 -> text.setLength(place);
            case 1 -> text.insert(place, ODD[random.nextInt(ODD.length)]);
            case 2 -> {
                if (place < text.length()) {
                    text.deleteCharAt(place);
                }
            }
            default -> {
                int end = Math.min(text.length(), place + 1 + random.nextInt(3));
                text.replace(place, end, ODD[random.nextInt(ODD.length)]);
            }
        }
    }
}
