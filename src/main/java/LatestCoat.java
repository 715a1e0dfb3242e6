import java.util.Arrays;

/**
 * A street of painted things: a cell is his who painted it last, once the paint is dry.
 * The numbered promises of the document say what each public method answers.
 */
public final class LatestCoat {
    public static final int NONE = -1;

    /** The answer of most calls when what they name is not there and NONE already means nobody. */
    private static final int MISSING = -2;
    private static final int NO_RULED = -3;
    private static final int NO_GAME = -100;
    private static final int NO_WORTH = -100000;

    private static final int MOST_BYTES = 400;
    private static final int FEED_BYTES = 20;
    private static final int MOST_RULES = 6;
    private static final int MOST_IMAGES = 4;
    private static final int MOST_THINGS = 4;
    private static final int MOST_CELLS = 16;
    private static final int MOST_CELLS_OF_THING = 6;
    private static final int MOST_PAINTERS = 4;
    private static final int MOST_RAINS = 5;
    private static final int MOST_COATS = 5;
    private static final int MOST_LOGS = 10;
    private static final int MOST_UNDONE = 20;
    private static final int LAST_HOUR = 999;
    private static final int MOST_PURSE = 999;
    private static final int MOST_AHEAD = 100;
    private static final int MOST_LEAST = 60;
    private static final int HOURS_FOR_WHEN = 60;
    private static final int HOURS_FOR_ONE = 100;
    private static final int MOST_TURNS = 4;
    private static final int MOST_YEARS = 10;

    private final byte[] tape = new byte[MOST_BYTES];
    private int tapeLength;
    private final Tokens tokens = new Tokens();
    private final RuleReader ruleReader = new RuleReader(tokens);
    private final Rule[] rules = new Rule[MOST_RULES];
    private int ruleCount;
    private final World now = new World();
    private final World[] images = new World[MOST_IMAGES];
    /** Where hours are tried that must leave the street itself alone. */
    private final State trial = new State();
    private final Hours hours = new Hours();
    private final Game duel = new Game();
    private final Scraping scraping = new Scraping();
    /** Who would own each cell of a thing, left as it is and painted over. */
    private final int[] ownerLeft = new int[MOST_CELLS_OF_THING];
    private final int[] ownerPainted = new int[MOST_CELLS_OF_THING];
    /** Of none and of each rule, who owns each thing at the hour looked at. */
    private final int[] seen = new int[(MOST_RULES + 1) * MOST_THINGS];

    public LatestCoat() {
        tapeLength = 0;
        ruleCount = 0;
    }

    // ---- the tape and its texts

    public int feed(int a, int b, int c, int d, int e) {
        if (tapeLength > MOST_BYTES - FEED_BYTES) {
            return NONE;
        }
        append(a);
        append(b);
        append(c);
        append(d);
        append(e);
        return tapeLength;
    }

    private void append(int number) {
        for (int shift = 24; shift >= 0; shift -= 8) {
            if (tapeLength < MOST_BYTES) {
                tape[tapeLength] = (byte) (number >>> shift);
                tapeLength++;
            }
        }
    }

    public int end(int n) {
        if (n < 0 || n > tapeLength) {
            return NONE;
        }
        tapeLength = n;
        return n;
    }

    public int street() {
        takeTape();
        StreetReader reader = new StreetReader(tokens);
        if (!reader.readAll()) {
            return MISSING - tokens.fault;
        }
        now.begin(reader.read);
        return now.street.cells;
    }

    public int rule() {
        if (ruleCount >= MOST_RULES) {
            return NONE;
        }
        takeTape();
        if (!ruleReader.readAll()) {
            return MISSING - tokens.fault;
        }
        rules[ruleCount] = ruleReader.made();
        ruleCount++;
        return ruleCount - 1;
    }

    /** A text is used up by being read, even if it has a fault. */
    private void takeTape() {
        tokens.split(tape, tapeLength);
        tapeLength = 0;
    }

    public int force(int rule) {
        if (rule < NONE || rule >= ruleCount) {
            return MISSING;
        }
        int was = now.force;
        now.force = rule;
        return was;
    }

    private Rule ruleOf(int rule) {
        return rule >= 0 && rule < ruleCount ? rules[rule] : null;
    }

    // ---- what is there

    private boolean isCell(int cell) {
        return cell >= 0 && cell < now.street.cells;
    }

    private boolean isThing(int thing) {
        return thing >= 0 && thing < now.street.things;
    }

    private boolean isPainter(int painter) {
        return painter >= 0 && painter < now.street.painters;
    }

    private static boolean isWithin(int number, int least, int most) {
        return number >= least && number <= most;
    }

    private boolean isBare(int thing) {
        return now.state.isBare(thing);
    }

    public int cell(int cell, int what) {
        if (!isCell(cell)) {
            return MISSING;
        }
        long coats = now.state.coats[cell];
        switch (what) {
            case 0:
                return now.street.thingOf[cell];
            case 1:
                return Coats.height(coats);
            case 2:
                return now.street.ownerOf(coats, now.state.hour);
            case 3:
                return Coats.topPainter(coats);
            case 4:
                return now.street.isWet(coats, now.state.hour) ? 1 : 0;
            default:
                return MISSING;
        }
    }

    public int coat(int cell, int k, int what) {
        if (!isCell(cell) || k < 0 || k >= Coats.height(now.state.coats[cell])) {
            return MISSING;
        }
        long coats = Coats.without(now.state.coats[cell], k);
        int painter = Coats.topPainter(coats);
        switch (what) {
            case 0:
                return painter;
            case 1:
                return isPainter(painter) ? now.street.colourOf[painter] : MISSING;
            case 2:
                return Coats.topHour(coats);
            default:
                return MISSING;
        }
    }

    public int thing(int thing, int what) {
        if (!isThing(thing)) {
            return MISSING;
        }
        switch (what) {
            case 0:
                return now.street.firstCell[thing];
            case 1:
                return now.street.cellsOf[thing];
            case 2:
                return now.street.rentOf[thing];
            case 3:
                return now.street.ownerOfThing(now.state, thing);
            case 4:
                return isBare(thing) ? 1 : 0;
            default:
                return MISSING;
        }
    }

    public int painter(int painter, int what) {
        if (!isPainter(painter)) {
            return NONE;
        }
        switch (what) {
            case 0:
                return now.street.colourOf[painter];
            case 1:
                return now.state.purse[painter];
            case 2:
                return cellsOwnedBy(painter);
            case 3:
                return thingsOwnedBy(painter);
            default:
                return NONE;
        }
    }

    private int cellsOwnedBy(int painter) {
        int bits = 0;
        for (int cell = 0; cell < now.street.cells; cell++) {
            if (now.street.ownerOf(now.state.coats[cell], now.state.hour) == painter) {
                bits |= 1 << cell;
            }
        }
        return bits;
    }

    private int thingsOwnedBy(int painter) {
        int bits = 0;
        for (int thing = 0; thing < now.street.things; thing++) {
            if (now.street.ownerOfThing(now.state, thing) == painter) {
                bits |= 1 << thing;
            }
        }
        return bits;
    }

    public int rain(int hour) {
        if (hour < 0 || !now.street.isTold) {
            return NONE;
        }
        return now.street.rainsIn(hour) ? 1 : 0;
    }

    public int count(int what) {
        switch (what) {
            case 7:
                return ruleCount;
            case 8:
                return now.force;
            case 9:
                return now.state.hour;
            case 10:
                return wetCells();
            case 11:
                return now.state.bare;
            case 12:
                return now.logCount;
            case 13:
                return now.keptCount;
            case 14:
                return now.x;
            case 15:
                return tapeLength;
            default:
                return countOfStreet(what);
        }
    }

    private int countOfStreet(int what) {
        switch (what) {
            case 0:
                return now.street.dry;
            case 1:
                return now.street.part;
            case 2:
                return now.street.cost;
            case 3:
                return now.street.things;
            case 4:
                return now.street.cells;
            case 5:
                return now.street.painters;
            case 6:
                return now.street.suit ? 1 : 0;
            default:
                return NONE;
        }
    }

    private int wetCells() {
        int bits = 0;
        for (int cell = 0; cell < now.street.cells; cell++) {
            if (now.street.isWet(now.state.coats[cell], now.state.hour)) {
                bits |= 1 << cell;
            }
        }
        return bits;
    }

    // ---- acts

    public int hour() {
        if (!now.street.isTold || now.state.hour >= LAST_HOUR) {
            return NONE;
        }
        now.keep();
        return hours.pass(now.street, now.state, ruleOf(now.force));
    }

    public int paint(int cell, int painter) {
        if (!isCell(cell) || !isPainter(painter) || !now.street.canPaint(now.state, cell, painter)) {
            return NONE;
        }
        now.keep();
        now.street.putCoat(now.state, cell, painter);
        return Coats.height(now.state.coats[cell]);
    }

    public int scrape(int cell) {
        if (!isCell(cell) || now.state.coats[cell] == 0) {
            return NONE;
        }
        now.keep();
        int painter = Coats.topPainter(now.state.coats[cell]);
        now.state.coats[cell] = Coats.without(now.state.coats[cell], 1);
        return painter;
    }

    public int vote(int thing) {
        if (!isThing(thing) || isBare(thing)) {
            return NONE;
        }
        now.keep();
        now.state.bare |= 1 << thing;
        return now.street.strip(now.state, thing);
    }

    public int undo() {
        return now.takeBack() ? now.keptCount : MISSING;
    }

    // ---- hours that are only asked about

    /** Lets n hours go by on the trial state, with rents counted from here on. */
    private void tryHours(int n) {
        hours.forgetRents();
        for (int k = 0; k < n; k++) {
            hours.pass(now.street, trial, ruleOf(now.force));
        }
    }

    public int ahead(int number, int n, int what) {
        if (!isWithin(n, 0, MOST_AHEAD) || !isThereFor(number, what)) {
            return MISSING;
        }
        trial.copyFrom(now.state);
        tryHours(n);
        if (what == 0) {
            return now.street.ownerOfThing(trial, number);
        }
        return what == 1 ? trial.purse[number] : now.street.ownerOf(trial.coats[number], trial.hour);
    }

    private boolean isThereFor(int number, int what) {
        switch (what) {
            case 0:
                return isThing(number);
            case 1:
                return isPainter(number);
            case 2:
                return isCell(number);
            default:
                return false;
        }
    }

    public int rents(int painter, int n) {
        if (!isPainter(painter) || !isWithin(n, 1, MOST_AHEAD)) {
            return NONE;
        }
        trial.copyFrom(now.state);
        tryHours(n);
        return hours.got[painter];
    }

    public int worth(int cell, int painter, int n) {
        if (!isCell(cell) || isBare(now.street.thingOf[cell])) {
            return NO_WORTH;
        }
        if (!isPainter(painter) || !isWithin(n, 1, MOST_AHEAD)) {
            return NO_WORTH;
        }
        trial.copyFrom(now.state);
        tryHours(n);
        int without = hours.got[painter];
        trial.copyFrom(now.state);
        trial.coats[cell] = Coats.with(trial.coats[cell], painter, trial.hour);
        tryHours(n);
        return hours.got[painter] - without;
    }

    public int one() {
        if (!now.street.isTold) {
            return NONE;
        }
        trial.copyFrom(now.state);
        for (int k = 0; k < HOURS_FOR_ONE; k++) {
            if (now.street.isOfOneColour(trial)) {
                return now.state.hour + k;
            }
            hours.pass(now.street, trial, ruleOf(now.force));
        }
        return MISSING;
    }

    public int when() {
        if (!now.street.isTold) {
            return NONE;
        }
        for (int k = 0; k < HOURS_FOR_WHEN; k++) {
            if (now.street.driesFrom(now.state.hour + k)) {
                return now.state.hour + k;
            }
        }
        return MISSING;
    }

    // ---- what can be done about a thing

    public int least(int painter, int thing, int n, int what) {
        if (!isPainter(painter) || !isThing(thing) || isBare(thing)) {
            return NONE;
        }
        if (!isWithin(n, 0, MOST_LEAST) || !isWithin(what, 0, 1)) {
            return NONE;
        }
        foreseeOwners(painter, thing, n);
        int set = leastSet(painter, thing);
        if (set == NONE) {
            return MISSING;
        }
        return what == 0 ? Integer.bitCount(set) : set;
    }

    private void foreseeOwners(int painter, int thing, int n) {
        Street street = now.street;
        int hour = now.state.hour;
        for (int k = 0; k < street.cellsOf[thing]; k++) {
            long coats = now.state.coats[street.firstCell[thing] + k];
            long painted = Coats.with(coats, painter, hour);
            ownerLeft[k] = street.ownerOf(street.afterRain(coats, hour, n), hour + n);
            ownerPainted[k] = street.ownerOf(street.afterRain(painted, hour, n), hour + n);
        }
    }

    private int leastSet(int painter, int thing) {
        int cells = now.street.cellsOf[thing];
        int best = NONE;
        for (int set = 0; set < 1 << cells; set++) {
            int tally = 0;
            for (int k = 0; k < cells; k++) {
                tally += Street.oneFor((set >> k & 1) == 1 ? ownerPainted[k] : ownerLeft[k]);
            }
            if (Street.ownerBy(tally, cells, now.street.part) == painter
                    && (best == NONE || Integer.bitCount(set) < Integer.bitCount(best))) {
                best = set;
            }
        }
        return best;
    }

    public int fewest(int painter, int thing, int what) {
        if (!isPainter(painter) || !isThing(thing) || !isWithin(what, 0, MOST_CELLS_OF_THING)) {
            return NONE;
        }
        if (isBare(thing) || what > now.street.cellsOf[thing]) {
            return MISSING;
        }
        if (!scraping.find(now.street, now.state, painter, thing)) {
            return MISSING;
        }
        return what == 0 ? scraping.fewest : scraping.fewestRow[what - 1];
    }

    public int game(int one, int other, int thing, int n, int what) {
        if (!isPainter(one) || !isPainter(other) || one == other || !isThing(thing) || isBare(thing)) {
            return NO_GAME;
        }
        if (!isWithin(n, 1, MOST_TURNS) || !isWithin(what, 0, 1)) {
            return NO_GAME;
        }
        duel.lay(now.street, now.state, thing);
        duel.seat(one, other, n);
        int value = duel.play(now.street, 0);
        if (what == 0) {
            return value;
        }
        return duel.opening == NONE ? NONE : now.street.firstCell[thing] + duel.opening;
    }

    // ---- who owns what, by other lights

    public int share(int painter, int thing, int part) {
        if (!isPainter(painter) || !isThing(thing) || !isWithin(part, 0, 1)) {
            return NONE;
        }
        int above = Street.countOf(now.street.tallyOf(now.state, thing), painter);
        int below = now.street.cellsOf[thing];
        int divisor = commonDivisor(above, below);
        if (divisor == 0) {
            return NONE;
        }
        return (part == 0 ? above : below) / divisor;
    }

    private static int commonDivisor(int a, int b) {
        int greatest = 0;
        for (int d = 1; d <= b; d++) {
            if (a % d == 0 && b % d == 0) {
                greatest = d;
            }
        }
        return greatest;
    }

    public int then(int thing, int hour) {
        if (!isThing(thing) || !isWithin(hour, 0, now.state.hour)) {
            return MISSING;
        }
        if (isBare(thing)) {
            return NONE;
        }
        int cells = now.street.cellsOf[thing];
        int tally = 0;
        for (int k = 0; k < cells; k++) {
            long coats = Coats.aheadOf(now.state.coats[now.street.firstCell[thing] + k], hour);
            tally += Street.oneFor(now.street.ownerOf(coats, hour));
        }
        return Street.ownerBy(tally, cells, now.street.part);
    }

    public int byPart(int thing, int part) {
        if (!isThing(thing) || !isWithin(part, 1, 100)) {
            return MISSING;
        }
        return Street.ownerBy(now.street.tallyOf(now.state, thing), now.street.cellsOf[thing], part);
    }

    // ---- logs and the rules behind them

    public int log(int n, int thing, int painter) {
        if (n == NONE) {
            now.logCount = 0;
            return 0;
        }
        if (!isWithin(n, 0, 99) || !isThing(thing) || (painter != NONE && !isPainter(painter))) {
            return MISSING;
        }
        if (now.logCount >= MOST_LOGS) {
            return MISSING;
        }
        now.logHour[now.logCount] = n;
        now.logThing[now.logCount] = thing;
        now.logOwner[now.logCount] = painter;
        now.logCount++;
        return now.logCount;
    }

    public int ruled(int what) {
        if (!now.street.isTold || !isWithin(what, 0, 1)) {
            return NO_RULED;
        }
        int fitting = 0;
        int first = MISSING;
        for (int rule = NONE; rule < ruleCount; rule++) {
            if (fits(rule, NONE, 0)) {
                first = fitting == 0 ? rule : first;
                fitting++;
            }
        }
        return what == 0 ? fitting : first;
    }

    public int look(int n, int what) {
        if (!now.street.isTold || !isWithin(n, 0, 99) || !isWithin(what, 0, 1)) {
            return NONE;
        }
        int fitting = 0;
        for (int rule = NONE; rule < ruleCount; rule++) {
            // one that does not fit leaves its row to the next
            if (fits(rule, n, fitting)) {
                fitting++;
            }
        }
        if (fitting == 0) {
            return MISSING;
        }
        int best = MISSING;
        int fewestAlike = MOST_RULES + 2;
        for (int thing = 0; thing < now.street.things; thing++) {
            int alike = mostAlike(thing, fitting);
            if (alike < fewestAlike) {
                fewestAlike = alike;
                best = thing;
            }
        }
        return best == MISSING || what == 0 ? best : fewestAlike;
    }

    /** Whether all logs are so under a rule; what is owned at the hour looked at goes into a row of what was seen. */
    private boolean fits(int rule, int lookedAt, int row) {
        int last = Math.max(lookedAt, now.lastLogHour());
        trial.copyFrom(now.street.told);
        for (int h = 0; h <= last; h++) {
            if (!logsHold(h)) {
                return false;
            }
            if (h == lookedAt) {
                noteSeen(row);
            }
            if (h < last) {
                hours.pass(now.street, trial, ruleOf(rule));
            }
        }
        return true;
    }

    private boolean logsHold(int hour) {
        for (int k = 0; k < now.logCount; k++) {
            if (now.logHour[k] == hour && now.street.ownerOfThing(trial, now.logThing[k]) != now.logOwner[k]) {
                return false;
            }
        }
        return true;
    }

    private void noteSeen(int row) {
        if (row < 0 || row > MOST_RULES) {
            return;
        }
        for (int thing = 0; thing < now.street.things; thing++) {
            seen[row * MOST_THINGS + thing] = now.street.ownerOfThing(trial, thing);
        }
    }

    private int mostAlike(int thing, int rows) {
        int most = 0;
        for (int i = 0; i < rows; i++) {
            int alike = 0;
            for (int j = 0; j < rows; j++) {
                if (seen[j * MOST_THINGS + thing] == seen[i * MOST_THINGS + thing]) {
                    alike++;
                }
            }
            most = Math.max(most, alike);
        }
        return most;
    }

    // ---- years drawn

    public int seed(int x) {
        if (x < 0) {
            return NONE;
        }
        int was = now.x;
        now.x = x;
        return was;
    }

    public int years(int m, int n, int what) {
        if (!now.street.isTold || !isWithin(what, 0, 1)) {
            return NONE;
        }
        if (!isWithin(m, 1, MOST_YEARS) || !isWithin(n, 1, MOST_AHEAD)) {
            return NONE;
        }
        if (now.street.painters == 0 || now.street.cells == 0) {
            return 0;
        }
        hours.forgetRents();
        hours.beginDraws(now.x);
        int painted = 0;
        for (int year = 0; year < m; year++) {
            trial.copyFrom(now.state);
            for (int k = 0; k < n; k++) {
                painted += hours.passDrawn(now.street, trial);
            }
        }
        return what == 0 ? painted : hours.gotByAll();
    }

    // ---- images

    public int image(int k) {
        if (!isWithin(k, 0, MOST_IMAGES - 1)) {
            return NONE;
        }
        if (images[k] == null) {
            images[k] = new World();
        }
        images[k].copyFrom(now);
        return now.state.hour;
    }

    public int back(int k) {
        if (!isWithin(k, 0, MOST_IMAGES - 1) || images[k] == null) {
            return NONE;
        }
        now.copyFrom(images[k]);
        return now.state.hour;
    }

    /** The coats of one cell in one number, the top one lowest, so that a sixth pushes the undermost out. */
    private static final class Coats {
        private static final int BITS = 12;
        private static final int PAINTER_BITS = 2;
        private static final long ALL = (1L << MOST_COATS * BITS) - 1;
        /** Added to an hour, so that even a coat told (hour NONE) of painter 0 is not 0, which is no coat. */
        private static final int HOUR_SHIFT = 2;

        static long with(long coats, int painter, int hour) {
            long coat = (long) (hour + HOUR_SHIFT) << PAINTER_BITS | painter;
            return (coats << BITS | coat) & ALL;
        }

        static long without(long coats, int k) {
            return k < 0 || k >= MOST_COATS ? 0 : coats >>> k * BITS;
        }

        static int height(long coats) {
            for (int k = 0; k < MOST_COATS; k++) {
                if (coats >>> k * BITS == 0) {
                    return k;
                }
            }
            return MOST_COATS;
        }

        static int topPainter(long coats) {
            return coats == 0 ? NONE : (int) (coats & (1 << PAINTER_BITS) - 1);
        }

        static int topHour(long coats) {
            return (int) (coats >>> PAINTER_BITS & (1 << BITS - PAINTER_BITS) - 1) - HOUR_SHIFT;
        }

        /** Those that were painted in hours ahead of one. */
        static long aheadOf(long coats, int hour) {
            for (int k = 0; k < MOST_COATS; k++) {
                long left = without(coats, k);
                if (left == 0 || topHour(left) < hour) {
                    return left;
                }
            }
            return 0;
        }
    }

    /** All that an act can change. */
    private static final class State {
        final long[] coats = new long[MOST_CELLS];
        final int[] purse = new int[MOST_PAINTERS];
        int hour;
        /** The bare things, as bits. */
        int bare;

        void copyFrom(State other) {
            System.arraycopy(other.coats, 0, coats, 0, MOST_CELLS);
            System.arraycopy(other.purse, 0, purse, 0, MOST_PAINTERS);
            hour = other.hour;
            bare = other.bare;
        }

        boolean isBare(int thing) {
            return (bare >> thing & 1) == 1;
        }
    }

    /** What the text told; once read it stays as it is, so that images can share it. */
    private static final class Street {
        /** How far apart the painters' counts lie in a tally; a thing has 6 cells at most. */
        private static final int TALLY_BITS = 4;

        boolean isTold;
        int dry;
        int part;
        int cost;
        boolean suit;
        int things;
        int cells;
        int painters;
        int rains;
        final int[] firstCell = new int[MOST_THINGS];
        final int[] cellsOf = new int[MOST_THINGS];
        final int[] rentOf = new int[MOST_THINGS];
        final int[] thingOf = new int[MOST_CELLS];
        final int[] colourOf = new int[MOST_PAINTERS];
        final int[] rainFirst = new int[MOST_RAINS];
        final int[] rainLast = new int[MOST_RAINS];
        final State told = new State();

        boolean rainsIn(int hour) {
            for (int k = 0; k < rains; k++) {
                if (hour >= rainFirst[k] && hour <= rainLast[k]) {
                    return true;
                }
            }
            return false;
        }

        /** Whether no rain falls while a coat of that hour is wet. */
        boolean driesFrom(int hour) {
            for (int k = 0; k < dry; k++) {
                if (rainsIn(hour + k)) {
                    return false;
                }
            }
            return true;
        }

        /** Whether the top coat is wet. */
        boolean isWet(long coats, int hour) {
            if (coats == 0) {
                return false;
            }
            int painted = Coats.topHour(coats);
            return painted != NONE && hour - painted < dry;
        }

        /** Only upper coats need a look: wet ones lie above all dry ones, as hours only go on. */
        long washed(long coats, int hour) {
            for (int k = 0; k < MOST_COATS; k++) {
                long left = Coats.without(coats, k);
                if (!isWet(left, hour)) {
                    return left;
                }
            }
            return 0;
        }

        /** What n hours in which nobody paints leave of coats. */
        long afterRain(long coats, int hour, int n) {
            long left = coats;
            for (int k = 0; k < n; k++) {
                if (rainsIn(hour + k)) {
                    left = washed(left, hour + k);
                }
            }
            return left;
        }

        int ownerOf(long coats, int hour) {
            for (int k = 0; k < MOST_COATS; k++) {
                long left = Coats.without(coats, k);
                if (!isWet(left, hour)) {
                    return Coats.topPainter(left);
                }
                if (suit) {
                    return NONE;
                }
            }
            return NONE;
        }

        /** What a cell adds to a tally, which has in one number how many cells each painter owns. */
        static int oneFor(int owner) {
            return owner < 0 ? 0 : 1 << owner * TALLY_BITS;
        }

        static int countOf(int tally, int painter) {
            return tally >> painter * TALLY_BITS & (1 << TALLY_BITS) - 1;
        }

        int tallyOf(State state, int thing) {
            int tally = 0;
            int first = firstCell[thing];
            for (int cell = first; cell < first + cellsOf[thing]; cell++) {
                tally += oneFor(ownerOf(state.coats[cell], state.hour));
            }
            return tally;
        }

        static int ownerBy(int tally, int cells, int part) {
            int owner = NONE;
            int most = 0;
            for (int painter = 0; painter < MOST_PAINTERS; painter++) {
                int count = countOf(tally, painter);
                if (count > most) {
                    most = count;
                    owner = painter;
                } else if (count == most) {
                    owner = NONE;
                }
            }
            return most * 100 >= part * cells ? owner : NONE;
        }

        /** A bare thing needs no test here: it has no coats, so nobody owns a cell of it. */
        int ownerOfThing(State state, int thing) {
            return ownerBy(tallyOf(state, thing), cellsOf[thing], part);
        }

        boolean canPaint(State state, int cell, int painter) {
            return !state.isBare(thingOf[cell]) && state.purse[painter] >= cost;
        }

        void putCoat(State state, int cell, int painter) {
            state.coats[cell] = Coats.with(state.coats[cell], painter, state.hour);
            state.purse[painter] -= cost;
        }

        /** Takes all coats of a thing: how many. */
        int strip(State state, int thing) {
            int gone = 0;
            int first = firstCell[thing];
            for (int cell = first; cell < first + cellsOf[thing]; cell++) {
                gone += Coats.height(state.coats[cell]);
                state.coats[cell] = 0;
            }
            return gone;
        }

        boolean isOfOneColour(State state) {
            int colour = NONE;
            for (int cell = 0; cell < cells; cell++) {
                if (!state.isBare(thingOf[cell])) {
                    int painter = Coats.topPainter(state.coats[cell]);
                    if (painter == NONE || (colour != NONE && colour != colourOf[painter])) {
                        return false;
                    }
                    colour = colourOf[painter];
                }
            }
            return true;
        }
    }

    /** All but the rules and the tape: what an image holds. */
    private static final class World {
        Street street = new Street();
        final State state = new State();
        /** The states ahead of the last acts, the oldest first. */
        final State[] kept = new State[MOST_UNDONE];
        int keptCount;
        final int[] logHour = new int[MOST_LOGS];
        final int[] logThing = new int[MOST_LOGS];
        final int[] logOwner = new int[MOST_LOGS];
        int logCount;
        int x;
        int force = NONE;

        World() {
            for (int k = 0; k < MOST_UNDONE; k++) {
                kept[k] = new State();
            }
        }

        void begin(Street read) {
            street = read;
            state.copyFrom(read.told);
            keptCount = 0;
            logCount = 0;
        }

        void keep() {
            if (keptCount >= MOST_UNDONE) {
                dropOldest();
            }
            kept[keptCount].copyFrom(state);
            keptCount++;
        }

        private void dropOldest() {
            State oldest = kept[0];
            for (int k = 1; k < MOST_UNDONE; k++) {
                kept[k - 1] = kept[k];
            }
            kept[MOST_UNDONE - 1] = oldest;
            keptCount = MOST_UNDONE - 1;
        }

        boolean takeBack() {
            if (keptCount == 0) {
                return false;
            }
            keptCount--;
            state.copyFrom(kept[keptCount]);
            return true;
        }

        int lastLogHour() {
            int last = 0;
            for (int k = 0; k < logCount; k++) {
                last = Math.max(last, logHour[k]);
            }
            return last;
        }

        void copyFrom(World other) {
            street = other.street;
            state.copyFrom(other.state);
            for (int k = 0; k < other.keptCount; k++) {
                kept[k].copyFrom(other.kept[k]);
            }
            keptCount = other.keptCount;
            System.arraycopy(other.logHour, 0, logHour, 0, MOST_LOGS);
            System.arraycopy(other.logThing, 0, logThing, 0, MOST_LOGS);
            System.arraycopy(other.logOwner, 0, logOwner, 0, MOST_LOGS);
            logCount = other.logCount;
            x = other.x;
            force = other.force;
        }
    }

    /** Lets hours go by on a state, by a rule or by draws, and counts the rents that are got. */
    private static final class Hours {
        private static final int DAY = 24;
        private static final int NOON = 12;

        private final long[] words = new long[Tokens.VALUE_WORDS];
        private final long[] stack = new long[RuleReader.MOST_MADE];
        private final int[] whose = new int[MOST_CELLS];
        private final int[] tally = new int[MOST_THINGS];
        private final int[] owner = new int[MOST_THINGS];
        final int[] got = new int[MOST_PAINTERS];
        private long x;

        void forgetRents() {
            Arrays.fill(got, 0);
        }

        int gotByAll() {
            int sum = 0;
            for (int painter = 0; painter < MOST_PAINTERS; painter++) {
                sum += got[painter];
            }
            return sum;
        }

        /** One hour by a rule, or null for none: how many coats were painted. */
        int pass(Street street, State state, Rule rule) {
            int painted = rule == null ? 0 : paintBy(rule, street, state);
            close(street, state);
            return painted;
        }

        void beginDraws(int from) {
            x = from;
        }

        int passDrawn(Street street, State state) {
            int painter = drawBelow(street.painters);
            int cell = drawBelow(street.cells);
            boolean can = street.canPaint(state, cell, painter);
            if (can) {
                street.putCoat(state, cell, painter);
            }
            close(street, state);
            return can ? 1 : 0;
        }

        private int drawBelow(int bound) {
            x = (x * 1103515245L + 12345L) % 2147483648L;
            return bound <= 0 ? 0 : (int) (x / 65536L) % bound;
        }

        private void close(Street street, State state) {
            if (street.rainsIn(state.hour)) {
                for (int cell = 0; cell < street.cells; cell++) {
                    state.coats[cell] = street.washed(state.coats[cell], state.hour);
                }
            }
            state.hour = Math.min(LAST_HOUR, state.hour + 1);
            if (state.hour % DAY == NOON) {
                for (int thing = 0; thing < street.things; thing++) {
                    int tallied = street.tallyOf(state, thing);
                    payRent(state, Street.ownerBy(tallied, street.cellsOf[thing], street.part), street.rentOf[thing]);
                }
            }
        }

        private void payRent(State state, int to, int rent) {
            if (to != NONE) {
                state.purse[to] = Math.min(MOST_PURSE, state.purse[to] + rent);
                got[to] += rent;
            }
        }

        private int paintBy(Rule rule, Street street, State state) {
            for (int thing = 0; thing < street.things; thing++) {
                seeThing(street, state, thing);
            }
            words[Tokens.HOUR] = state.hour;
            words[Tokens.RAIN] = street.rainsIn(state.hour) ? 1 : 0;
            int painted = 0;
            for (int painter = 0; painter < street.painters; painter++) {
                if (state.purse[painter] >= street.cost) {
                    int cell = choose(rule, street, state, painter);
                    if (cell != NONE) {
                        street.putCoat(state, cell, painter);
                        seeThing(street, state, street.thingOf[cell]);
                        painted++;
                    }
                }
            }
            return painted;
        }

        /** Keeps who owns what of a thing, for the rule asks it of each painter and cell. */
        private void seeThing(Street street, State state, int thing) {
            int tallied = 0;
            int first = street.firstCell[thing];
            for (int cell = first; cell < first + street.cellsOf[thing]; cell++) {
                whose[cell] = street.ownerOf(state.coats[cell], state.hour);
                tallied += Street.oneFor(whose[cell]);
            }
            tally[thing] = tallied;
            owner[thing] = Street.ownerBy(tallied, street.cellsOf[thing], street.part);
        }

        private int choose(Rule rule, Street street, State state, int painter) {
            int best = NONE;
            long greatest = 0;
            words[Tokens.PAINTER] = painter;
            words[Tokens.PURSE] = state.purse[painter];
            for (int cell = 0; cell < street.cells; cell++) {
                if (!state.isBare(street.thingOf[cell])) {
                    setWords(street, state, painter, cell);
                    long value = rule.valueFor(words, stack);
                    if (value > greatest) {
                        greatest = value;
                        best = cell;
                    }
                }
            }
            return best;
        }

        private void setWords(Street street, State state, int painter, int cell) {
            int thing = street.thingOf[cell];
            long coats = state.coats[cell];
            words[Tokens.CELL] = cell;
            words[Tokens.THING] = thing;
            words[Tokens.RENT] = street.rentOf[thing];
            words[Tokens.TOP] = Coats.topPainter(coats);
            words[Tokens.WET] = street.isWet(coats, state.hour) ? 1 : 0;
            words[Tokens.WHOSE] = whose[cell];
            words[Tokens.MINE] = Street.countOf(tally[thing], painter);
            words[Tokens.OWNER] = owner[thing];
            words[Tokens.COATS] = Coats.height(coats);
        }
    }

    /** Two painters by turns over the cells of one thing, the cells ahead of each turn in a row of their own. */
    private static final class Game {
        private final long[][] coats = new long[MOST_TURNS + 1][MOST_CELLS_OF_THING];
        private int begin;
        private int cells;
        private int one;
        private int other;
        private int turns;
        /** The first one's best first cell, counted within the thing, or NONE. */
        int opening;

        void lay(Street street, State state, int thing) {
            begin = state.hour;
            cells = street.cellsOf[thing];
            System.arraycopy(state.coats, street.firstCell[thing], coats[0], 0, cells);
        }

        void seat(int first, int second, int n) {
            one = first;
            other = second;
            turns = Math.min(n, MOST_TURNS);
            opening = NONE;
        }

        int play(Street street, int turn) {
            if (turn >= turns) {
                return outcome(street, turn);
            }
            boolean isOnes = turn % 2 == 0;
            int best = 0;
            for (int move = NONE; move < cells; move++) {
                make(street, turn, move, isOnes ? one : other);
                int value = play(street, turn + 1);
                if (move == NONE || (isOnes ? value > best : value < best)) {
                    best = value;
                    opening = turn == 0 ? move : opening;
                }
            }
            return best;
        }

        private void make(Street street, int turn, int move, int painter) {
            int hour = begin + turn;
            for (int k = 0; k < cells; k++) {
                long before = coats[turn][k];
                long painted = k == move ? Coats.with(before, painter, hour) : before;
                coats[turn + 1][k] = street.afterRain(painted, hour, 1);
            }
        }

        private int outcome(Street street, int turn) {
            int hour = begin + turn;
            int lead = 0;
            for (int k = 0; k < cells; k++) {
                long left = street.afterRain(coats[turn][k], hour, street.dry);
                int owner = street.ownerOf(left, hour + street.dry);
                if (owner == one) {
                    lead++;
                } else if (owner == other) {
                    lead--;
                }
            }
            return lead;
        }
    }

    /** The fewest scrapes that make a thing a painter's. */
    private static final class Scraping {
        private static final int TOO_MANY = MOST_CELLS_OF_THING * MOST_COATS + 1;

        /** Who owns a cell of the thing when so many of its coats are gone. */
        private final int[][] ownerAfter = new int[MOST_CELLS_OF_THING][MOST_COATS + 1];
        private final int[] heights = new int[MOST_CELLS_OF_THING];
        private final int[] row = new int[MOST_CELLS_OF_THING];
        final int[] fewestRow = new int[MOST_CELLS_OF_THING];
        int fewest;
        private int cells;
        private int part;
        private int wanted;

        boolean find(Street street, State state, int painter, int thing) {
            wanted = painter;
            cells = street.cellsOf[thing];
            part = street.part;
            for (int k = 0; k < cells; k++) {
                long coats = state.coats[street.firstCell[thing] + k];
                heights[k] = Coats.height(coats);
                for (int gone = 0; gone <= heights[k]; gone++) {
                    ownerAfter[k][gone] = street.ownerOf(Coats.without(coats, gone), state.hour);
                }
            }
            fewest = TOO_MANY;
            search(0, 0, 0);
            return fewest < TOO_MANY;
        }

        /** Rows come in their order, so that the first of the fewest is the least one. */
        private void search(int k, int gone, int tally) {
            if (gone >= fewest) {
                return;
            }
            if (k >= cells) {
                if (Street.ownerBy(tally, cells, part) == wanted) {
                    fewest = gone;
                    System.arraycopy(row, 0, fewestRow, 0, cells);
                }
                return;
            }
            for (int here = 0; here <= heights[k]; here++) {
                row[k] = here;
                search(k + 1, gone + here, tally + Street.oneFor(ownerAfter[k][here]));
            }
        }
    }

    /** A text cut into words, numbers and signs, and the place in it where a reader stands. */
    private static final class Tokens {
        /** The kinds of faults. */
        static final int CANT_STAND = 0;
        static final int BAD_NUMBER = 1;
        static final int TOO_DEEP = 2;
        static final int VALUE_TOO_MANY = 3;
        static final int CLAUSE_TOO_MANY = 4;

        /** The kinds of tokens: a word's place in WORDS, then a sign's in SIGNS, then the rest. */
        static final int PAINTER = 0;
        static final int CELL = 1;
        static final int THING = 2;
        static final int RENT = 3;
        static final int TOP = 4;
        static final int WET = 5;
        static final int WHOSE = 6;
        static final int MINE = 7;
        static final int OWNER = 8;
        static final int COATS = 9;
        static final int PURSE = 10;
        static final int HOUR = 11;
        static final int RAIN = 12;
        static final int VALUE_WORDS = 13;
        static final int STREET = 13;
        static final int COAT = 14;
        static final int BARE = 15;
        static final int SUIT = 16;
        static final int PAINT = 17;
        static final int IF = 18;
        static final int AND = 19;
        static final int OR = 20;
        static final int NOT = 21;
        static final int PLUS = 22;
        static final int MINUS = 23;
        static final int TIMES = 24;
        static final int OVER = 25;
        static final int REST = 26;
        static final int LESS = 27;
        static final int EQUAL = 28;
        static final int MORE = 29;
        static final int OPEN = 30;
        static final int CLOSE = 31;
        static final int SEMICOLON = 32;
        static final int AT_MOST = 33;
        static final int AT_LEAST = 34;
        static final int NUMBER = 35;
        static final int END = 36;
        static final int UNKNOWN = 37;

        private static final String WORDS =
            "painter cell thing rent top wet whose mine owner coats purse hour rain street coat bare suit paint if and or not ";
        private static final String SIGNS = "+-*/%<=>[];";
        private static final int MOST_DIGITS = 5;

        private final int[] kinds = new int[MOST_BYTES + 1];
        private final int[] places = new int[MOST_BYTES + 1];
        private final int[] numbers = new int[MOST_BYTES + 1];
        private int size;
        private int at;
        /** 0, or 1 and up as the document counts faults. */
        int fault;

        void split(byte[] text, int length) {
            size = 0;
            at = 0;
            fault = 0;
            int from = 0;
            while (from < length) {
                int to = Math.max(from + 1, runEnd(text, from, length));
                if (text[from] != ' ') {
                    add(kindOf(text, from, to), from, numberOf(text, from, to));
                }
                from = to;
            }
            add(END, length, NONE);
        }

        private void add(int kind, int place, int number) {
            if (size <= MOST_BYTES) {
                kinds[size] = kind;
                places[size] = place;
                numbers[size] = number;
                size++;
            }
        }

        private static boolean isLetter(byte sign) {
            return sign >= 'a' && sign <= 'z';
        }

        private static boolean isDigit(byte sign) {
            return sign >= '0' && sign <= '9';
        }

        /** Words and numbers go on as far as their signs do; of the others only < and > take one more, = . */
        private static int runEnd(byte[] text, int from, int length) {
            byte first = text[from];
            int to = from + 1;
            if (isLetter(first)) {
                while (to < length && isLetter(text[to])) {
                    to++;
                }
            } else if (isDigit(first)) {
                while (to < length && isDigit(text[to])) {
                    to++;
                }
            } else if ((first == '<' || first == '>') && to < length && text[to] == '=') {
                to++;
            }
            return to;
        }

        private static int kindOf(byte[] text, int from, int to) {
            byte first = text[from];
            if (isLetter(first)) {
                return wordKind(text, from, to);
            }
            if (isDigit(first)) {
                return NUMBER;
            }
            if (to - from == 2) {
                return first == '<' ? AT_MOST : AT_LEAST;
            }
            int sign = first < 0 ? NONE : SIGNS.indexOf((char) first);
            return sign < 0 ? UNKNOWN : PLUS + sign;
        }

        private static int wordKind(byte[] text, int from, int to) {
            int word = 0;
            int start = 0;
            for (int k = 0; k < WORDS.length(); k++) {
                if (WORDS.charAt(k) == ' ') {
                    if (k - start == to - from && isSame(text, from, start, k)) {
                        return word;
                    }
                    word++;
                    start = k + 1;
                }
            }
            return UNKNOWN;
        }

        private static boolean isSame(byte[] text, int from, int start, int end) {
            for (int k = start; k < end; k++) {
                if (text[from + k - start] != WORDS.charAt(k)) {
                    return false;
                }
            }
            return true;
        }

        /** NONE for too many digits, which no bounds of a number let through. */
        private static int numberOf(byte[] text, int from, int to) {
            if (!isDigit(text[from]) || to - from > MOST_DIGITS) {
                return NONE;
            }
            int number = 0;
            for (int k = from; k < to; k++) {
                number = number * 10 + text[k] - '0';
            }
            return number;
        }

        int kind() {
            return at < size ? kinds[at] : END;
        }

        int number() {
            return at < size ? numbers[at] : NONE;
        }

        void step() {
            if (at < size - 1) {
                at++;
            }
        }

        /** Always false, so that a reader can return it. */
        boolean fail(int faultKind) {
            int place = at < size ? places[at] : 0;
            fault = 1 + 8 * place + faultKind;
            return false;
        }

        /** A number within bounds, and a step behind it; NONE, with its fault, if there is none. */
        int takeNumber(int least, int most) {
            if (kind() != NUMBER) {
                fail(CANT_STAND);
                return NONE;
            }
            int number = number();
            if (number < least || number > most) {
                fail(BAD_NUMBER);
                return NONE;
            }
            step();
            return number;
        }
    }

    /** Reads a street out of tokens. */
    private static final class StreetReader {
        private static final int MOST_CLAUSES = 40;

        private final Tokens tokens;
        final Street read = new Street();

        StreetReader(Tokens tokens) {
            this.tokens = tokens;
        }

        boolean readAll() {
            for (int k = 0; k <= MOST_CLAUSES; k++) {
                int word = tokens.kind();
                if (!beginsClause(word)) {
                    return tokens.fail(Tokens.CANT_STAND);
                }
                if (k == MOST_CLAUSES || (k == 0) != (word == Tokens.STREET) || isFullOf(word)) {
                    return tokens.fail(Tokens.CLAUSE_TOO_MANY);
                }
                tokens.step();
                if (!readClause(word)) {
                    return false;
                }
                if (tokens.kind() == Tokens.END) {
                    finish();
                    return true;
                }
                if (tokens.kind() != Tokens.SEMICOLON) {
                    return tokens.fail(Tokens.CANT_STAND);
                }
                tokens.step();
            }
            return false;
        }

        private static boolean beginsClause(int word) {
            switch (word) {
                case Tokens.STREET:
                case Tokens.THING:
                case Tokens.PAINTER:
                case Tokens.COAT:
                case Tokens.BARE:
                case Tokens.RAIN:
                case Tokens.SUIT:
                    return true;
                default:
                    return false;
            }
        }

        private boolean isFullOf(int word) {
            switch (word) {
                case Tokens.THING:
                    return read.things >= MOST_THINGS;
                case Tokens.PAINTER:
                    return read.painters >= MOST_PAINTERS;
                case Tokens.RAIN:
                    return read.rains >= MOST_RAINS;
                case Tokens.SUIT:
                    return read.suit;
                default:
                    return false;
            }
        }

        private boolean readClause(int word) {
            switch (word) {
                case Tokens.STREET:
                    return readHead();
                case Tokens.THING:
                    return readThing();
                case Tokens.PAINTER:
                    return readPainter();
                case Tokens.COAT:
                    return readCoat();
                case Tokens.BARE:
                    return readBare();
                case Tokens.RAIN:
                    return readRain();
                default:
                    read.suit = true;
                    return true;
            }
        }

        private boolean readHead() {
            read.dry = tokens.takeNumber(1, 9);
            if (read.dry == NONE) {
                return false;
            }
            read.part = tokens.takeNumber(1, 100);
            if (read.part == NONE) {
                return false;
            }
            read.cost = tokens.takeNumber(0, 9);
            return read.cost != NONE;
        }

        private boolean readThing() {
            int cells = tokens.takeNumber(1, Math.min(MOST_CELLS_OF_THING, MOST_CELLS - read.cells));
            if (cells == NONE) {
                return false;
            }
            int rent = tokens.takeNumber(0, 20);
            if (rent == NONE) {
                return false;
            }
            int thing = read.things;
            read.firstCell[thing] = read.cells;
            read.cellsOf[thing] = cells;
            read.rentOf[thing] = rent;
            for (int cell = read.cells; cell < read.cells + cells; cell++) {
                read.thingOf[cell] = thing;
            }
            read.cells += cells;
            read.things++;
            return true;
        }

        private boolean readPainter() {
            int colour = tokens.takeNumber(0, 8);
            if (colour == NONE) {
                return false;
            }
            int purse = tokens.takeNumber(0, 99);
            if (purse == NONE) {
                return false;
            }
            read.colourOf[read.painters] = colour;
            read.told.purse[read.painters] = purse;
            read.painters++;
            return true;
        }

        private boolean readCoat() {
            int cell = tokens.takeNumber(0, read.cells - 1);
            if (cell == NONE) {
                return false;
            }
            int painter = tokens.takeNumber(0, read.painters - 1);
            if (painter == NONE) {
                return false;
            }
            read.told.coats[cell] = Coats.with(read.told.coats[cell], painter, NONE);
            return true;
        }

        private boolean readBare() {
            int thing = tokens.takeNumber(0, read.things - 1);
            if (thing == NONE) {
                return false;
            }
            read.told.bare |= 1 << thing;
            return true;
        }

        private boolean readRain() {
            int first = tokens.takeNumber(0, 199);
            if (first == NONE) {
                return false;
            }
            int last = tokens.takeNumber(first, 199);
            if (last == NONE) {
                return false;
            }
            read.rainFirst[read.rains] = first;
            read.rainLast[read.rains] = last;
            read.rains++;
            return true;
        }

        /** Only now, as coats may be told of a thing ahead of its being bare and behind it. */
        private void finish() {
            for (int thing = 0; thing < read.things; thing++) {
                if (read.told.isBare(thing)) {
                    read.strip(read.told, thing);
                }
            }
            read.isTold = true;
        }
    }

    /** Reads a rule out of tokens, into code that has each sign behind what it joins. */
    private static final class RuleReader {
        /** How many values and facts of a sign a text may have. */
        static final int MOST_MADE = 60;
        private static final int MOST_CLAUSES = 12;
        private static final int MOST_DEPTH = 10;

        private final Tokens tokens;
        private final int[] code = new int[MOST_BYTES];
        private final int[] testAt = new int[MOST_CLAUSES];
        private final int[] endAt = new int[MOST_CLAUSES];
        private int size;
        private int clauses;
        private int values;

        RuleReader(Tokens tokens) {
            this.tokens = tokens;
        }

        Rule made() {
            return new Rule(Arrays.copyOf(code, size), Arrays.copyOf(testAt, clauses), Arrays.copyOf(endAt, clauses));
        }

        boolean readAll() {
            size = 0;
            clauses = 0;
            values = 0;
            for (int k = 0; k <= MOST_CLAUSES; k++) {
                if (tokens.kind() != Tokens.PAINT) {
                    return tokens.fail(Tokens.CANT_STAND);
                }
                if (k == MOST_CLAUSES) {
                    return tokens.fail(Tokens.CLAUSE_TOO_MANY);
                }
                tokens.step();
                if (!readSum()) {
                    return false;
                }
                testAt[k] = size;
                if (tokens.kind() == Tokens.IF) {
                    tokens.step();
                    if (!readTest(0)) {
                        return false;
                    }
                }
                endAt[k] = size;
                clauses = k + 1;
                if (tokens.kind() == Tokens.END) {
                    return true;
                }
                if (tokens.kind() != Tokens.SEMICOLON) {
                    return tokens.fail(Tokens.CANT_STAND);
                }
                tokens.step();
            }
            return false;
        }

        private void emit(int item) {
            if (size < MOST_BYTES) {
                code[size] = item;
                size++;
            }
        }

        private boolean readTest(int depth) {
            for (int k = 0; k < MOST_BYTES; k++) {
                if (!readPart(depth)) {
                    return false;
                }
                if (k > 0) {
                    emit(Tokens.OR);
                }
                if (tokens.kind() != Tokens.OR) {
                    return true;
                }
                tokens.step();
            }
            return false;
        }

        private boolean readPart(int depth) {
            for (int k = 0; k < MOST_BYTES; k++) {
                if (!readFact(depth)) {
                    return false;
                }
                if (k > 0) {
                    emit(Tokens.AND);
                }
                if (tokens.kind() != Tokens.AND) {
                    return true;
                }
                tokens.step();
            }
            return false;
        }

        private boolean readFact(int depth) {
            int opener = tokens.kind();
            if (opener == Tokens.NOT || opener == Tokens.OPEN) {
                if (depth >= MOST_DEPTH) {
                    return tokens.fail(Tokens.TOO_DEEP);
                }
                tokens.step();
                return opener == Tokens.NOT ? readDenied(depth + 1) : readBracketed(depth + 1);
            }
            if (!readSum()) {
                return false;
            }
            int sign = tokens.kind();
            if (!compares(sign)) {
                return tokens.fail(Tokens.CANT_STAND);
            }
            if (values >= MOST_MADE) {
                return tokens.fail(Tokens.VALUE_TOO_MANY);
            }
            values++;
            tokens.step();
            boolean isRead = readSum();
            emit(sign);
            return isRead;
        }

        private boolean readDenied(int depth) {
            boolean isRead = readFact(depth);
            emit(Tokens.NOT);
            return isRead;
        }

        private boolean readBracketed(int depth) {
            if (!readTest(depth)) {
                return false;
            }
            if (tokens.kind() != Tokens.CLOSE) {
                return tokens.fail(Tokens.CANT_STAND);
            }
            tokens.step();
            return true;
        }

        private static boolean compares(int kind) {
            return kind == Tokens.LESS || kind == Tokens.EQUAL || kind == Tokens.MORE
                || kind == Tokens.AT_MOST || kind == Tokens.AT_LEAST;
        }

        private static boolean adds(int kind) {
            return kind == Tokens.PLUS || kind == Tokens.MINUS;
        }

        private static boolean multiplies(int kind) {
            return kind == Tokens.TIMES || kind == Tokens.OVER || kind == Tokens.REST;
        }

        /** A + or - waits until the term behind it is whole. */
        private boolean readSum() {
            int waiting = NONE;
            int sign = NONE;
            for (int k = 0; k < MOST_BYTES; k++) {
                if (!readValue()) {
                    return false;
                }
                if (multiplies(sign)) {
                    emit(sign);
                }
                sign = tokens.kind();
                if (!multiplies(sign)) {
                    if (waiting != NONE) {
                        emit(waiting);
                    }
                    if (!adds(sign)) {
                        return true;
                    }
                    waiting = sign;
                }
                tokens.step();
            }
            return false;
        }

        private boolean readValue() {
            int kind = tokens.kind();
            int number = tokens.number();
            if (kind != Tokens.NUMBER && kind >= Tokens.VALUE_WORDS) {
                return tokens.fail(Tokens.CANT_STAND);
            }
            if (kind == Tokens.NUMBER && number == NONE) {
                return tokens.fail(Tokens.BAD_NUMBER);
            }
            if (values >= MOST_MADE) {
                return tokens.fail(Tokens.VALUE_TOO_MANY);
            }
            values++;
            emit(kind == Tokens.NUMBER ? Rule.NUMBERS + number : kind);
            tokens.step();
            return true;
        }
    }

    /** The code of a rule: of each clause the sum's, then its test's, if it has one. */
    private static final class Rule {
        /** An item of code from here on is a number, less than which is the kind of a word or a sign. */
        static final int NUMBERS = 64;

        private final int[] code;
        private final int[] testAt;
        private final int[] endAt;

        Rule(int[] code, int[] testAt, int[] endAt) {
            this.code = code;
            this.testAt = testAt;
            this.endAt = endAt;
        }

        /** The sum of the first clause that has no test, or whose test holds; else 0. */
        long valueFor(long[] words, long[] stack) {
            int sumAt = 0;
            for (int k = 0; k < testAt.length && k < endAt.length; k++) {
                if (testAt[k] == endAt[k] || run(testAt[k], endAt[k], words, stack) != 0) {
                    return run(sumAt, testAt[k], words, stack);
                }
                sumAt = endAt[k];
            }
            return 0;
        }

        private long run(int from, int to, long[] words, long[] stack) {
            int height = 0;
            for (int k = from; k < to && k < code.length; k++) {
                int item = code[k];
                if (item >= NUMBERS || item < Tokens.VALUE_WORDS) {
                    if (height < stack.length) {
                        stack[height] = item >= NUMBERS ? item - NUMBERS : words[item];
                        height++;
                    }
                } else if (item == Tokens.NOT) {
                    if (height > 0) {
                        stack[height - 1] = 1 - stack[height - 1];
                    }
                } else if (height > 1) {
                    height--;
                    stack[height - 1] = joined(item, stack[height - 1], stack[height]);
                }
            }
            return height > 0 ? stack[0] : 0;
        }

        private static long joined(int sign, long a, long b) {
            switch (sign) {
                case Tokens.PLUS:
                    return a + b;
                case Tokens.MINUS:
                    return a - b;
                case Tokens.TIMES:
                    return a * b;
                case Tokens.OVER:
                    return b == 0 ? 0 : a / b;
                case Tokens.REST:
                    return b == 0 ? 0 : a % b;
                case Tokens.LESS:
                    return a < b ? 1 : 0;
                case Tokens.AT_MOST:
                    return a <= b ? 1 : 0;
                case Tokens.EQUAL:
                    return a == b ? 1 : 0;
                case Tokens.AT_LEAST:
                    return a >= b ? 1 : 0;
                case Tokens.MORE:
                    return a > b ? 1 : 0;
                case Tokens.AND:
                    return a & b;
                default:
                    return a | b;
            }
        }
    }
}
