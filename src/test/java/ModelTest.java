import java.nio.charset.StandardCharsets;
import java.util.Arrays;
import java.util.Random;

/**
 * Drawn runs of calls, each call put to LatestCoat and to PlainModel: the answers must be the same.
 * The draws are the same each time. An argument, if there is one, is the number of runs.
 */
public final class ModelTest {
    private static final int CALLS = 250;
    private static final String[] VALUES = {"painter", "cell", "thing", "rent", "top", "wet", "whose", "mine", "owner",
        "coats", "purse", "hour", "rain"};
    private static final String[] SCRAPS = {" ", ";", "street", "thing", "painter", "coat", "bare", "rain", "suit",
        "paint", "if", "and", "or", "not", "[", "]", "<", "<=", "=", ">=", ">", "+", "-", "*", "/", "%", "0", "1", "7",
        "19", "100", "00003", "000003", "99999", "A", ",", "\0", "\u00e9", "top", "cellar", "paint 1;", "[[[", "not not "};
    private static final int[] EDGES = {Integer.MIN_VALUE, Integer.MAX_VALUE, -100, -3, -2, -1, 0, 1, 2, 3, 4, 5, 6, 7,
        9, 10, 11, 12, 15, 16, 17, 59, 60, 61, 99, 100, 101, 199, 200};

    private final Random random;
    private final LatestCoat coat = new LatestCoat();
    private final PlainModel plain = new PlainModel();
    private final StringBuilder calls = new StringBuilder();

    private ModelTest(long seed) {
        random = new Random(seed);
    }

    public static void main(String[] args) {
        int runs = args.length > 0 ? Integer.parseInt(args[0]) : 2000;
        int wrong = 0;
        for (int seed = 1; seed <= runs && wrong < 5; seed++) {
            ModelTest test = new ModelTest(seed);
            if (!test.run()) {
                wrong++;
                System.out.println("run " + seed + ":\n" + test.calls);
            }
        }
        System.out.println("ModelTest: " + runs + " runs, " + wrong + " wrong");
        System.exit(wrong == 0 ? 0 : 1);
    }

    private boolean run() {
        boolean same = random.nextInt(10) == 0 || tell(true, streetText());
        for (int k = random.nextInt(4); k > 0 && same; k--) {
            same = tell(false, ruleText()) && call("force", random.nextInt(7) - 1);
        }
        for (int k = 0; k < CALLS && same; k++) {
            same = step();
        }
        return same;
    }

    private boolean step() {
        int what = random.nextInt(100);
        if (what < 3) {
            return tell(true, streetText());
        }
        if (what < 5) {
            return tell(false, ruleText());
        }
        if (what < 30) {
            return act();
        }
        if (what < 32) {
            return call("image", edge(4)) && call("back", edge(4));
        }
        if (what < 36) {
            return call("log", random.nextInt(8) == 0 ? -1 : edge(30), edge(4), edge(5) - 1);
        }
        return ask();
    }

    private boolean act() {
        switch (random.nextInt(12)) {
            case 0:
            case 1:
            case 2:
                return call("hour");
            case 3:
            case 4:
            case 5:
                return call("paint", edge(17), edge(4));
            case 6:
                return call("scrape", edge(17));
            case 7:
                return random.nextInt(4) > 0 || call("vote", edge(4));
            case 8:
                return call("undo");
            case 9:
                return call("force", edge(6) - 1);
            case 10:
                return call("seed", random.nextInt(5) == 0 ? edge(9) : random.nextInt() & Integer.MAX_VALUE);
            default:
                return call("back", edge(4));
        }
    }

    private boolean ask() {
        switch (random.nextInt(27)) {
            case 0:
                return call("cell", edge(17), edge(5));
            case 1:
                return call("coat", edge(17), edge(5), edge(3));
            case 2:
                return call("thing", edge(4), edge(5));
            case 3:
                return call("painter", edge(4), edge(4));
            case 4:
                return call("rain", edge(40));
            case 5:
                return call("ahead", edge(random.nextInt(3) == 0 ? 16 : 4), edge(101), edge(3));
            case 6:
                return call("rents", edge(4), edge(101));
            case 7:
            case 8:
            case 9:
                return call("least", edge(4), edge(4), edge(random.nextInt(2) == 0 ? 5 : 61), edge(2));
            case 10:
            case 11:
            case 12:
                return call("fewest", edge(4), edge(4), edge(7));
            case 13:
                return call("when");
            case 14:
            case 15:
            case 16:
                return call("game", edge(4), edge(4), edge(4), 1 + edge(random.nextInt(4) == 0 ? 4 : 3), edge(2));
            case 17:
                return call("share", edge(4), edge(4), edge(2));
            case 18:
                return call("then", edge(4), edge(Math.max(1, plain.all.state.hour + 1)));
            case 19:
                return call("byPart", edge(4), edge(101));
            case 20:
                return call("one");
            case 21:
                return call("ruled", edge(2));
            case 22:
                return call("look", edge(30), edge(2));
            case 23:
                return call("worth", edge(16), edge(4), edge(101));
            case 24:
                return call("years", edge(11), edge(101), edge(2));
            case 25:
                return call("end", edge(20));
            default:
                return call("count", edge(16));
        }
    }

    /** Mostly a number below a bound, now and then another. */
    private int edge(int bound) {
        return random.nextInt(25) == 0 ? EDGES[random.nextInt(EDGES.length)] : random.nextInt(bound);
    }

    // ---- texts

    private boolean tell(boolean isStreet, String text) {
        byte[] bytes = Arrays.copyOf(text.getBytes(StandardCharsets.ISO_8859_1), Math.min(400, text.length()));
        calls.append("    text ").append(new String(bytes, StandardCharsets.ISO_8859_1)).append('\n');
        boolean same = call("end", 0);
        for (int from = 0; from < bytes.length && same; from += 20) {
            int[] n = new int[5];
            for (int k = 0; k < 20 && from + k < bytes.length; k++) {
                n[k / 4] |= (bytes[from + k] & 255) << 24 - 8 * (k % 4);
            }
            same = call("feed", n);
        }
        return same && call("end", bytes.length) && call(isStreet ? "street" : "rule") && call("count", 15);
    }

    private String streetText() {
        StringBuilder text = new StringBuilder("street " + (1 + random.nextInt(random.nextBoolean() ? 3 : 9)) + " "
            + (random.nextBoolean() ? 1 + random.nextInt(100) : 50) + " " + random.nextInt(random.nextBoolean() ? 1 : 4));
        int things = random.nextInt(5);
        int painters = random.nextInt(5);
        int cells = 0;
        for (int t = 0; t < things; t++) {
            int n = Math.min(1 + random.nextInt(6), 16 - cells);
            cells += Math.max(n, 0);
            text.append(random.nextInt(20) == 0 ? " ; " : ";").append(n > 0 ? "thing " + n + " " + random.nextInt(21) : "suit");
        }
        for (int p = 0; p < painters; p++) {
            text.append(";painter ").append(random.nextInt(3)).append(' ').append(random.nextInt(100));
        }
        for (int k = random.nextInt(25); k > 0 && cells > 0 && painters > 0; k--) {
            text.append(";coat ").append(random.nextInt(cells)).append(' ').append(random.nextInt(painters));
        }
        for (int k = random.nextInt(6); k > 0; k--) {
            int first = random.nextInt(40);
            text.append(";rain ").append(first).append(' ').append(first + random.nextInt(3));
        }
        if (things > 0 && random.nextInt(6) == 0) {
            text.append(";bare ").append(random.nextInt(things));
        }
        if (text.indexOf("suit") < 0 && random.nextBoolean()) {
            text.append(";suit");
        }
        return spoilt(text);
    }

    private String ruleText() {
        StringBuilder text = new StringBuilder();
        for (int k = random.nextInt(4); k >= 0; k--) {
            text.append("paint ").append(sumText());
            if (random.nextInt(4) > 0) {
                text.append(" if ").append(testText(random.nextInt(3)));
            }
            text.append(k > 0 ? ";" : "");
        }
        return spoilt(text);
    }

    private String sumText() {
        StringBuilder text = new StringBuilder(valueText());
        for (int k = random.nextInt(4); k > 0; k--) {
            text.append("+-*/%".charAt(random.nextInt(5))).append(valueText());
        }
        return text.toString();
    }

    private String valueText() {
        int what = random.nextInt(10);
        return what < 6 ? VALUES[random.nextInt(VALUES.length)] : "" + random.nextInt(what == 6 ? 100000 : 10);
    }

    private String testText(int depth) {
        int what = random.nextInt(depth > 0 ? 6 : 1);
        switch (what) {
            case 1:
                return "not " + testText(depth - 1);
            case 2:
                return "[" + testText(depth - 1) + "]";
            case 3:
                return testText(depth - 1) + " and " + testText(depth - 1);
            case 4:
                return testText(depth - 1) + " or " + testText(depth - 1);
            default:
                String[] signs = {"<", "<=", "=", ">=", ">"};
                return sumText() + signs[random.nextInt(5)] + sumText();
        }
    }

    private String spoilt(StringBuilder text) {
        for (int k = random.nextInt(3) == 0 ? 1 + random.nextInt(2) : 0; k > 0; k--) {
            int at = random.nextInt(text.length() + 1);
            int to = Math.min(text.length(), at + random.nextInt(4));
            StringBuilder scrap = new StringBuilder(SCRAPS[random.nextInt(SCRAPS.length)]);
            if (random.nextInt(6) == 0) {
                scrap = new StringBuilder(scrap.toString().repeat(1 + random.nextInt(30)));
            }
            text.replace(at, to, scrap.toString());
        }
        return text.toString();
    }

    // ---- calls

    private boolean call(String name, int... n) {
        int got = ask(name, n);
        int want = askPlain(name, n);
        calls.append("    ").append(name).append(Arrays.toString(n)).append(" = ").append(got);
        calls.append(got == want ? "\n" : ", the model says " + want + "\n");
        return got == want;
    }

    private int ask(String name, int[] n) {
        switch (name) {
            case "feed": return coat.feed(n[0], n[1], n[2], n[3], n[4]);
            case "end": return coat.end(n[0]);
            case "street": return coat.street();
            case "rule": return coat.rule();
            case "force": return coat.force(n[0]);
            case "cell": return coat.cell(n[0], n[1]);
            case "coat": return coat.coat(n[0], n[1], n[2]);
            case "thing": return coat.thing(n[0], n[1]);
            case "painter": return coat.painter(n[0], n[1]);
            case "rain": return coat.rain(n[0]);
            case "hour": return coat.hour();
            case "paint": return coat.paint(n[0], n[1]);
            case "scrape": return coat.scrape(n[0]);
            case "vote": return coat.vote(n[0]);
            case "undo": return coat.undo();
            case "ahead": return coat.ahead(n[0], n[1], n[2]);
            case "rents": return coat.rents(n[0], n[1]);
            case "least": return coat.least(n[0], n[1], n[2], n[3]);
            case "fewest": return coat.fewest(n[0], n[1], n[2]);
            case "when": return coat.when();
            case "game": return coat.game(n[0], n[1], n[2], n[3], n[4]);
            case "share": return coat.share(n[0], n[1], n[2]);
            case "then": return coat.then(n[0], n[1]);
            case "byPart": return coat.byPart(n[0], n[1]);
            case "one": return coat.one();
            case "log": return coat.log(n[0], n[1], n[2]);
            case "ruled": return coat.ruled(n[0]);
            case "look": return coat.look(n[0], n[1]);
            case "worth": return coat.worth(n[0], n[1], n[2]);
            case "seed": return coat.seed(n[0]);
            case "years": return coat.years(n[0], n[1], n[2]);
            case "count": return coat.count(n[0]);
            case "image": return coat.image(n[0]);
            case "back": return coat.back(n[0]);
            default: throw new IllegalArgumentException(name);
        }
    }

    private int askPlain(String name, int[] n) {
        switch (name) {
            case "feed": return plain.feed(n[0], n[1], n[2], n[3], n[4]);
            case "end": return plain.end(n[0]);
            case "street": return plain.street();
            case "rule": return plain.rule();
            case "force": return plain.force(n[0]);
            case "cell": return plain.cell(n[0], n[1]);
            case "coat": return plain.coat(n[0], n[1], n[2]);
            case "thing": return plain.thing(n[0], n[1]);
            case "painter": return plain.painter(n[0], n[1]);
            case "rain": return plain.rain(n[0]);
            case "hour": return plain.hour();
            case "paint": return plain.paint(n[0], n[1]);
            case "scrape": return plain.scrape(n[0]);
            case "vote": return plain.vote(n[0]);
            case "undo": return plain.undo();
            case "ahead": return plain.ahead(n[0], n[1], n[2]);
            case "rents": return plain.rents(n[0], n[1]);
            case "least": return plain.least(n[0], n[1], n[2], n[3]);
            case "fewest": return plain.fewest(n[0], n[1], n[2]);
            case "when": return plain.when();
            case "game": return plain.game(n[0], n[1], n[2], n[3], n[4]);
            case "share": return plain.share(n[0], n[1], n[2]);
            case "then": return plain.then(n[0], n[1]);
            case "byPart": return plain.byPart(n[0], n[1]);
            case "one": return plain.one();
            case "log": return plain.log(n[0], n[1], n[2]);
            case "ruled": return plain.ruled(n[0]);
            case "look": return plain.look(n[0], n[1]);
            case "worth": return plain.worth(n[0], n[1], n[2]);
            case "seed": return plain.seed(n[0]);
            case "years": return plain.years(n[0], n[1], n[2]);
            case "count": return plain.count(n[0]);
            case "image": return plain.image(n[0]);
            case "back": return plain.back(n[0]);
            default: throw new IllegalArgumentException(name);
        }
    }
}
