import java.util.ArrayList;
import java.util.List;

/**
 * The document once more, as plainly as it can be said, with lists and copies and no thought of cost:
 * ModelTest holds LatestCoat against it.
 */
final class PlainModel {
    static final class Coat {
        final int painter;
        final int hour;

        Coat(int painter, int hour) {
            this.painter = painter;
            this.hour = hour;
        }
    }

    static final class Thing {
        int first;
        int cells;
        int rent;
    }

    static final class Told {
        int dry;
        int part;
        int cost;
        boolean suit;
        List<Thing> things = new ArrayList<>();
        List<int[]> painters = new ArrayList<>();
        List<int[]> rains = new ArrayList<>();
        int cells;
        State begin = new State();

        int thingOf(int cell) {
            for (int t = 0; t < things.size(); t++) {
                Thing thing = things.get(t);
                if (cell >= thing.first && cell < thing.first + thing.cells) {
                    return t;
                }
            }
            throw new IllegalStateException("no thing has cell " + cell);
        }

        boolean rains(int hour) {
            return rains.stream().anyMatch(r -> hour >= r[0] && hour <= r[1]);
        }
    }

    static final class State {
        List<List<Coat>> coats = new ArrayList<>();
        List<Integer> purses = new ArrayList<>();
        List<Boolean> bare = new ArrayList<>();
        int hour;

        State copy() {
            State other = new State();
            for (List<Coat> cell : coats) {
                other.coats.add(new ArrayList<>(cell));
            }
            other.purses = new ArrayList<>(purses);
            other.bare = new ArrayList<>(bare);
            other.hour = hour;
            return other;
        }
    }

    /** All but rules and tape. */
    static final class All {
        Told told;
        State state = new State();
        List<State> undo = new ArrayList<>();
        List<int[]> logs = new ArrayList<>();
        int x;
        int force = -1;

        All copy() {
            All other = new All();
            other.told = told;
            other.state = state.copy();
            other.undo = new ArrayList<>(undo);
            other.logs = new ArrayList<>(logs);
            other.x = x;
            other.force = force;
            return other;
        }
    }

    static final class Fault extends RuntimeException {
        private static final long serialVersionUID = 1L;
        final int number;

        Fault(int place, int kind) {
            super("fault", null, false, false);
            number = 1 + 8 * place + kind;
        }
    }

    interface Sum {
        long of(State s, int painter, int cell);
    }

    interface Test {
        boolean of(State s, int painter, int cell);
    }

    static final class Clause {
        Sum sum;
        Test test;
    }

    List<Byte> tape = new ArrayList<>();
    List<List<Clause>> rules = new ArrayList<>();
    All all = new All();
    All[] images = new All[4];

    // ---- owners

    boolean wet(Told told, Coat coat, int hour) {
        return coat.hour != -1 && hour < coat.hour + told.dry;
    }

    int ownerOfCell(Told told, List<Coat> coats, int hour) {
        int owner = -1;
        boolean wetAbove = false;
        for (Coat coat : coats) {
            if (wet(told, coat, hour)) {
                wetAbove = true;
            } else {
                owner = coat.painter;
                wetAbove = false;
            }
        }
        return told.suit && wetAbove ? -1 : owner;
    }

    int owned(Told told, State s, int thing, int painter) {
        int n = 0;
        Thing t = told.things.get(thing);
        for (int c = t.first; c < t.first + t.cells; c++) {
            if (ownerOfCell(told, s.coats.get(c), s.hour) == painter) {
                n++;
            }
        }
        return n;
    }

    int ownerOfThing(Told told, State s, int thing, int part) {
        if (s.bare.get(thing)) {
            return -1;
        }
        for (int p = 0; p < told.painters.size(); p++) {
            int mine = owned(told, s, thing, p);
            boolean more = true;
            for (int q = 0; q < told.painters.size(); q++) {
                if (q != p && owned(told, s, thing, q) >= mine) {
                    more = false;
                }
            }
            if (more && mine * 100 >= part * told.things.get(thing).cells) {
                return p;
            }
        }
        return -1;
    }

    // ---- hours

    static void put(State s, int cell, int painter) {
        s.coats.get(cell).add(new Coat(painter, s.hour));
        if (s.coats.get(cell).size() > 5) {
            s.coats.get(cell).remove(0);
        }
    }

    boolean paints(Told told, State s, int cell, int painter) {
        if (s.bare.get(told.thingOf(cell)) || s.purses.get(painter) < told.cost) {
            return false;
        }
        put(s, cell, painter);
        s.purses.set(painter, s.purses.get(painter) - told.cost);
        return true;
    }

    int byRule(Told told, State s, int rule) {
        if (rule == -1) {
            return 0;
        }
        int painted = 0;
        for (int p = 0; p < told.painters.size(); p++) {
            long best = Long.MIN_VALUE;
            int where = -1;
            for (int c = 0; c < told.cells; c++) {
                if (s.bare.get(told.thingOf(c))) {
                    continue;
                }
                long value = 0;
                for (Clause clause : rules.get(rule)) {
                    if (clause.test == null || clause.test.of(s, p, c)) {
                        value = clause.sum.of(s, p, c);
                        break;
                    }
                }
                if (where == -1 || value > best) {
                    best = value;
                    where = c;
                }
            }
            if (where != -1 && best > 0 && paints(told, s, where, p)) {
                painted++;
            }
        }
        return painted;
    }

    /** The rest of an hour behind its painting; rents go to got. */
    void rest(Told told, State s, int[] got) {
        if (told.rains(s.hour)) {
            for (List<Coat> cell : s.coats) {
                int hour = s.hour;
                cell.removeIf(c -> wet(told, c, hour));
            }
        }
        s.hour = Math.min(999, s.hour + 1);
        for (int noon = 12; noon <= 999; noon += 24) {
            if (noon == s.hour) {
                for (int t = 0; t < told.things.size(); t++) {
                    int owner = ownerOfThing(told, s, t, told.part);
                    if (owner != -1) {
                        got[owner] += told.things.get(t).rent;
                        s.purses.set(owner, Math.min(999, s.purses.get(owner) + told.things.get(t).rent));
                    }
                }
            }
        }
    }

    int pass(Told told, State s, int rule, int[] got) {
        int painted = byRule(told, s, rule);
        rest(told, s, got);
        return painted;
    }

    // ---- calls

    int feed(int a, int b, int c, int d, int e) {
        if (tape.size() + 20 > 400) {
            return -1;
        }
        for (int number : new int[] {a, b, c, d, e}) {
            for (int k = 3; k >= 0; k--) {
                tape.add((byte) (number >> 8 * k));
            }
        }
        return tape.size();
    }

    int end(int n) {
        if (n < 0 || n > tape.size()) {
            return -1;
        }
        tape = new ArrayList<>(tape.subList(0, n));
        return n;
    }

    private byte[] takeTape() {
        byte[] bytes = new byte[tape.size()];
        for (int k = 0; k < bytes.length; k++) {
            bytes[k] = tape.get(k);
        }
        tape.clear();
        return bytes;
    }

    int street() {
        try {
            Told told = new PlainReader(this, takeTape()).street();
            all.told = told;
            all.state = told.begin.copy();
            all.logs.clear();
            all.undo.clear();
            return told.cells;
        } catch (Fault f) {
            return -2 - f.number;
        }
    }

    int rule() {
        if (rules.size() == 6) {
            return -1;
        }
        try {
            rules.add(new PlainReader(this, takeTape()).rule());
            return rules.size() - 1;
        } catch (Fault f) {
            return -2 - f.number;
        }
    }

    int force(int rule) {
        if (rule < -1 || rule >= rules.size()) {
            return -2;
        }
        int was = all.force;
        all.force = rule;
        return was;
    }

    boolean cellIs(int c) {
        return all.told != null && c >= 0 && c < all.told.cells;
    }

    boolean thingIs(int t) {
        return all.told != null && t >= 0 && t < all.told.things.size();
    }

    boolean painterIs(int p) {
        return all.told != null && p >= 0 && p < all.told.painters.size();
    }

    int cell(int cell, int what) {
        if (!cellIs(cell) || what < 0 || what > 4) {
            return -2;
        }
        List<Coat> coats = all.state.coats.get(cell);
        Coat top = coats.isEmpty() ? null : coats.get(coats.size() - 1);
        return switch (what) {
            case 0 -> all.told.thingOf(cell);
            case 1 -> coats.size();
            case 2 -> ownerOfCell(all.told, coats, all.state.hour);
            case 3 -> top == null ? -1 : top.painter;
            default -> top != null && wet(all.told, top, all.state.hour) ? 1 : 0;
        };
    }

    int coat(int cell, int k, int what) {
        if (!cellIs(cell) || k < 0 || what < 0 || what > 2 || k >= all.state.coats.get(cell).size()) {
            return -2;
        }
        List<Coat> coats = all.state.coats.get(cell);
        Coat coat = coats.get(coats.size() - 1 - k);
        return what == 0 ? coat.painter : what == 1 ? all.told.painters.get(coat.painter)[0] : coat.hour;
    }

    int thing(int thing, int what) {
        if (!thingIs(thing) || what < 0 || what > 4) {
            return -2;
        }
        Thing t = all.told.things.get(thing);
        return switch (what) {
            case 0 -> t.first;
            case 1 -> t.cells;
            case 2 -> t.rent;
            case 3 -> ownerOfThing(all.told, all.state, thing, all.told.part);
            default -> all.state.bare.get(thing) ? 1 : 0;
        };
    }

    int painter(int painter, int what) {
        if (!painterIs(painter) || what < 0 || what > 3) {
            return -1;
        }
        if (what == 0) {
            return all.told.painters.get(painter)[0];
        }
        if (what == 1) {
            return all.state.purses.get(painter);
        }
        int bits = 0;
        for (int k = 0; k < (what == 2 ? all.told.cells : all.told.things.size()); k++) {
            if ((what == 2 ? cell(k, 2) : thing(k, 3)) == painter) {
                bits += 1 << k;
            }
        }
        return bits;
    }

    int rain(int hour) {
        return all.told == null || hour < 0 ? -1 : all.told.rains(hour) ? 1 : 0;
    }

    private void act() {
        all.undo.add(all.state.copy());
        if (all.undo.size() > 20) {
            all.undo.remove(0);
        }
    }

    int hour() {
        if (all.told == null || all.state.hour == 999) {
            return -1;
        }
        act();
        return pass(all.told, all.state, all.force, new int[4]);
    }

    int paint(int cell, int painter) {
        if (!cellIs(cell) || !painterIs(painter)) {
            return -1;
        }
        State after = all.state.copy();
        if (!paints(all.told, after, cell, painter)) {
            return -1;
        }
        act();
        all.state = after;
        return after.coats.get(cell).size();
    }

    int scrape(int cell) {
        if (!cellIs(cell) || all.state.coats.get(cell).isEmpty()) {
            return -1;
        }
        act();
        List<Coat> coats = all.state.coats.get(cell);
        return coats.remove(coats.size() - 1).painter;
    }

    int vote(int thing) {
        if (!thingIs(thing) || all.state.bare.get(thing)) {
            return -1;
        }
        act();
        int gone = 0;
        Thing t = all.told.things.get(thing);
        for (int c = t.first; c < t.first + t.cells; c++) {
            gone += all.state.coats.get(c).size();
            all.state.coats.get(c).clear();
        }
        all.state.bare.set(thing, true);
        return gone;
    }

    int undo() {
        if (all.undo.isEmpty()) {
            return -2;
        }
        all.state = all.undo.remove(all.undo.size() - 1).copy();
        return all.undo.size();
    }

    int ahead(int number, int n, int what) {
        boolean is = what == 0 ? thingIs(number) : what == 1 ? painterIs(number) : what == 2 && cellIs(number);
        if (!is || n < 0 || n > 100) {
            return -2;
        }
        State s = all.state.copy();
        for (int k = 0; k < n; k++) {
            pass(all.told, s, all.force, new int[4]);
        }
        return what == 0 ? ownerOfThing(all.told, s, number, all.told.part)
            : what == 1 ? s.purses.get(number) : ownerOfCell(all.told, s.coats.get(number), s.hour);
    }

    private int rentsFrom(State s, int painter, int n) {
        int[] got = new int[4];
        for (int k = 0; k < n; k++) {
            pass(all.told, s, all.force, got);
        }
        return got[painter];
    }

    int rents(int painter, int n) {
        return !painterIs(painter) || n < 1 || n > 100 ? -1 : rentsFrom(all.state.copy(), painter, n);
    }

    int least(int painter, int thing, int n, int what) {
        if (!painterIs(painter) || !thingIs(thing) || all.state.bare.get(thing)) {
            return -1;
        }
        if (n < 0 || n > 60 || what < 0 || what > 1) {
            return -1;
        }
        Thing t = all.told.things.get(thing);
        for (int size = 0; size <= t.cells; size++) {
            for (int set = 0; set < 1 << t.cells; set++) {
                if (Integer.bitCount(set) == size && leastIs(painter, thing, n, set)) {
                    return what == 0 ? size : set;
                }
            }
        }
        return -2;
    }

    private boolean leastIs(int painter, int thing, int n, int set) {
        State s = all.state.copy();
        Thing t = all.told.things.get(thing);
        for (int c = 0; c < t.cells; c++) {
            if ((set & 1 << c) != 0) {
                put(s, t.first + c, painter);
            }
        }
        for (int k = 0; k < n; k++) {
            pass(all.told, s, -1, new int[4]);
        }
        return ownerOfThing(all.told, s, thing, all.told.part) == painter;
    }

    int fewest(int painter, int thing, int what) {
        if (!painterIs(painter) || !thingIs(thing) || what < 0 || what > 6) {
            return -1;
        }
        Thing t = all.told.things.get(thing);
        int[] best = null;
        int bestSum = 99;
        int rows = 1;
        for (int c = 0; c < t.cells; c++) {
            rows *= 6;
        }
        for (int number = 0; number < rows; number++) {
            int[] row = new int[t.cells];
            int left = number;
            int sum = 0;
            for (int c = t.cells - 1; c >= 0; c--) {
                row[c] = left % 6;
                sum += row[c];
                left /= 6;
            }
            if (sum < bestSum && scrapesTo(painter, thing, row)) {
                best = row;
                bestSum = sum;
            }
        }
        return best == null || what > t.cells ? -2 : what == 0 ? bestSum : best[what - 1];
    }

    private boolean scrapesTo(int painter, int thing, int[] row) {
        Thing t = all.told.things.get(thing);
        for (int c = 0; c < t.cells; c++) {
            if (all.state.coats.get(t.first + c).size() < row[c]) {
                return false;
            }
        }
        State s = all.state.copy();
        for (int c = 0; c < t.cells; c++) {
            List<Coat> coats = s.coats.get(t.first + c);
            for (int k = 0; k < row[c]; k++) {
                coats.remove(coats.size() - 1);
            }
        }
        return ownerOfThing(all.told, s, thing, all.told.part) == painter;
    }

    int when() {
        if (all.told == null) {
            return -1;
        }
        for (int h = all.state.hour; h < all.state.hour + 60; h++) {
            boolean washed = false;
            for (int k = h; k < h + all.told.dry; k++) {
                washed |= all.told.rains(k);
            }
            if (!washed) {
                return h;
            }
        }
        return -2;
    }

    int game(int one, int other, int thing, int n, int what) {
        if (!painterIs(one) || !painterIs(other) || one == other || !thingIs(thing)) {
            return -100;
        }
        if (all.state.bare.get(thing) || n < 1 || n > 4 || what < 0 || what > 1) {
            return -100;
        }
        int[] best = play(all.state, one, other, thing, n, 1);
        return best[what];
    }

    /** The value for the one whose turn is counted with sign 1, and the move. */
    private int[] play(State s, int one, int other, int thing, int left, int sign) {
        if (left == 0) {
            State after = s.copy();
            for (int k = 0; k < all.told.dry; k++) {
                pass(all.told, after, -1, new int[4]);
            }
            return new int[] {owned(all.told, after, thing, one) - owned(all.told, after, thing, other), -1};
        }
        Thing t = all.told.things.get(thing);
        int[] best = null;
        for (int c = t.first - 1; c < t.first + t.cells; c++) {
            State after = s.copy();
            if (c >= t.first) {
                put(after, c, sign == 1 ? one : other);
            }
            pass(all.told, after, -1, new int[4]);
            int value = play(after, one, other, thing, left - 1, -sign)[0];
            if (best == null || value * sign > best[0] * sign) {
                best = new int[] {value, c < t.first ? -1 : c};
            }
        }
        return best;
    }

    int share(int painter, int thing, int part) {
        if (!painterIs(painter) || !thingIs(thing) || part < 0 || part > 1) {
            return -1;
        }
        int a = owned(all.told, all.state, thing, painter);
        int b = all.told.things.get(thing).cells;
        int x = a;
        int y = b;
        while (y != 0) {
            int r = x % y;
            x = y;
            y = r;
        }
        return (part == 0 ? a : b) / x;
    }

    int then(int thing, int hour) {
        if (!thingIs(thing) || hour < 0 || hour > all.state.hour) {
            return -2;
        }
        State s = all.state.copy();
        for (List<Coat> cell : s.coats) {
            cell.removeIf(c -> c.hour >= hour);
        }
        s.hour = hour;
        return ownerOfThing(all.told, s, thing, all.told.part);
    }

    int byPart(int thing, int part) {
        return !thingIs(thing) || part < 1 || part > 100 ? -2 : ownerOfThing(all.told, all.state, thing, part);
    }

    int one() {
        if (all.told == null) {
            return -1;
        }
        State s = all.state.copy();
        for (int k = 0; k < 100; k++) {
            List<Integer> colours = new ArrayList<>();
            for (int c = 0; c < all.told.cells; c++) {
                if (!s.bare.get(all.told.thingOf(c))) {
                    List<Coat> coats = s.coats.get(c);
                    colours.add(coats.isEmpty() ? -1 : all.told.painters.get(coats.get(coats.size() - 1).painter)[0]);
                }
            }
            if (!colours.contains(-1) && colours.stream().distinct().count() <= 1) {
                return all.state.hour + k;
            }
            pass(all.told, s, all.force, new int[4]);
        }
        return -2;
    }

    int log(int n, int thing, int painter) {
        if (n == -1) {
            all.logs.clear();
            return 0;
        }
        if (n < 0 || n > 99 || !thingIs(thing) || painter != -1 && !painterIs(painter) || all.logs.size() == 10) {
            return -2;
        }
        all.logs.add(new int[] {n, thing, painter});
        return all.logs.size();
    }

    private State after(int rule, int n) {
        State s = all.told.begin.copy();
        for (int k = 0; k < n; k++) {
            pass(all.told, s, rule, new int[4]);
        }
        return s;
    }

    private List<Integer> fitting() {
        List<Integer> list = new ArrayList<>();
        for (int rule = -1; rule < rules.size(); rule++) {
            boolean is = true;
            for (int[] log : all.logs) {
                is &= ownerOfThing(all.told, after(rule, log[0]), log[1], all.told.part) == log[2];
            }
            if (is) {
                list.add(rule);
            }
        }
        return list;
    }

    int ruled(int what) {
        if (all.told == null || what < 0 || what > 1) {
            return -3;
        }
        List<Integer> list = fitting();
        return what == 0 ? list.size() : list.isEmpty() ? -2 : list.get(0);
    }

    int look(int n, int what) {
        if (all.told == null || n < 0 || n > 99 || what < 0 || what > 1) {
            return -1;
        }
        List<Integer> list = fitting();
        int best = -2;
        int alike = 99;
        for (int t = 0; t < all.told.things.size() && !list.isEmpty(); t++) {
            int[] groups = new int[5];
            int most = 0;
            for (int rule : list) {
                int owner = ownerOfThing(all.told, after(rule, n), t, all.told.part);
                groups[owner + 1]++;
                most = Math.max(most, groups[owner + 1]);
            }
            if (most < alike) {
                alike = most;
                best = t;
            }
        }
        return best == -2 || what == 0 ? best : alike;
    }

    int worth(int cell, int painter, int n) {
        if (!cellIs(cell) || all.state.bare.get(all.told.thingOf(cell)) || !painterIs(painter) || n < 1 || n > 100) {
            return -100000;
        }
        State s = all.state.copy();
        put(s, cell, painter);
        return rentsFrom(s, painter, n) - rentsFrom(all.state.copy(), painter, n);
    }

    int seed(int x) {
        if (x < 0) {
            return -1;
        }
        int was = all.x;
        all.x = x;
        return was;
    }

    int years(int m, int n, int what) {
        if (all.told == null || m < 1 || m > 10 || n < 1 || n > 100 || what < 0 || what > 1) {
            return -1;
        }
        java.math.BigInteger x = java.math.BigInteger.valueOf(all.x);
        int painted = 0;
        int[] got = new int[4];
        for (int year = 0; year < m; year++) {
            State s = all.state.copy();
            for (int k = 0; k < n; k++) {
                if (all.told.cells > 0 && !all.told.painters.isEmpty()) {
                    x = drawn(x);
                    int painter = x.intValue() / 65536 % all.told.painters.size();
                    x = drawn(x);
                    int cell = x.intValue() / 65536 % all.told.cells;
                    painted += paints(all.told, s, cell, painter) ? 1 : 0;
                }
                rest(all.told, s, got);
            }
        }
        return what == 0 ? painted : got[0] + got[1] + got[2] + got[3];
    }

    private static java.math.BigInteger drawn(java.math.BigInteger x) {
        return x.multiply(java.math.BigInteger.valueOf(1103515245)).add(java.math.BigInteger.valueOf(12345))
            .mod(java.math.BigInteger.valueOf(2147483648L));
    }

    int count(int what) {
        Told told = all.told == null ? new Told() : all.told;
        int bits = 0;
        for (int k = 0; k < 16; k++) {
            bits |= what == 10 && cell(k, 4) == 1 || what == 11 && thing(k, 4) == 1 ? 1 << k : 0;
        }
        return switch (what) {
            case 0 -> told.dry;
            case 1 -> told.part;
            case 2 -> told.cost;
            case 3 -> told.things.size();
            case 4 -> told.cells;
            case 5 -> told.painters.size();
            case 6 -> told.suit ? 1 : 0;
            case 7 -> rules.size();
            case 8 -> all.force;
            case 9 -> all.state.hour;
            case 10, 11 -> bits;
            case 12 -> all.logs.size();
            case 13 -> all.undo.size();
            case 14 -> all.x;
            case 15 -> tape.size();
            default -> -1;
        };
    }

    int image(int k) {
        if (k < 0 || k > 3) {
            return -1;
        }
        images[k] = all.copy();
        return all.state.hour;
    }

    int back(int k) {
        if (k < 0 || k > 3 || images[k] == null) {
            return -1;
        }
        all = images[k].copy();
        return all.state.hour;
    }
}
