import java.nio.charset.StandardCharsets;

/** What the hand-written tests share: texts onto the tape, and answers against those that are due. */
final class Due {
    static final int CANT_STAND = 0;
    static final int BAD_NUMBER = 1;
    static final int TOO_DEEP = 2;
    static final int VALUE_TOO_MANY = 3;
    static final int CLAUSE_TOO_MANY = 4;

    private int wrong;
    private int asked;

    void is(String what, int got, int want) {
        asked++;
        if (got != want) {
            wrong++;
            System.out.println(what + " answered " + got + ", due is " + want);
        }
    }

    /** Prints how it went and ends the program, with 1 if an answer was wrong. */
    void close(String name) {
        System.out.println(name + ": " + asked + " answers, " + wrong + " wrong");
        System.exit(wrong == 0 ? 0 : 1);
    }

    static void tape(LatestCoat x, String text) {
        tape(x, text.getBytes(StandardCharsets.ISO_8859_1));
    }

    static void tape(LatestCoat x, byte[] bytes) {
        for (int from = 0; from < bytes.length; from += 20) {
            int[] numbers = new int[5];
            for (int k = 0; k < 20 && from + k < bytes.length; k++) {
                numbers[k / 4] |= (bytes[from + k] & 255) << 24 - 8 * (k % 4);
            }
            x.feed(numbers[0], numbers[1], numbers[2], numbers[3], numbers[4]);
        }
        x.end(bytes.length);
    }

    static int street(LatestCoat x, String text) {
        tape(x, text);
        return x.street();
    }

    static int rule(LatestCoat x, String text) {
        tape(x, text);
        return x.rule();
    }

    /** A new object with a street. */
    static LatestCoat on(String text) {
        LatestCoat x = new LatestCoat();
        int answer = street(x, text);
        if (answer < 0) {
            throw new IllegalStateException("the test's street has a fault: " + answer + " of " + text);
        }
        return x;
    }

    /** Lets hours go by. */
    static void hours(LatestCoat x, int n) {
        for (int k = 0; k < n; k++) {
            x.hour();
        }
    }

    /** All that can be seen of an object, but for how long its tape is: what it answers to the plainest questions. */
    static String seen(LatestCoat x) {
        StringBuilder all = new StringBuilder();
        for (int what = 0; what < 15; what++) {
            all.append(x.count(what)).append(' ');
        }
        for (int cell = 0; cell < x.count(4); cell++) {
            all.append("cell");
            for (int what = 0; what < 5; what++) {
                all.append(' ').append(x.cell(cell, what));
            }
            for (int k = 0; k < x.cell(cell, 1); k++) {
                all.append(" (").append(x.coat(cell, k, 0)).append(' ').append(x.coat(cell, k, 1)).append(' ');
                all.append(x.coat(cell, k, 2)).append(") ");
            }
        }
        for (int thing = 0; thing < x.count(3); thing++) {
            all.append("thing ").append(x.thing(thing, 2)).append(' ').append(x.thing(thing, 3)).append(' ');
        }
        for (int painter = 0; painter < x.count(5); painter++) {
            all.append("painter ").append(x.painter(painter, 0)).append(' ').append(x.painter(painter, 1)).append(' ');
        }
        return all.toString();
    }

    /** What street and rule answer for a fault. */
    static int fault(int place, int kind) {
        return -2 - (1 + 8 * place + kind);
    }
}
