import java.nio.charset.StandardCharsets;
import java.util.ArrayList;
import java.util.List;

/** The two languages of the document, read byte by byte for PlainModel. */
final class PlainReader {
    private final PlainModel model;
    private final String text;
    private int at;
    private int made;

    PlainReader(PlainModel model, byte[] bytes) {
        this.model = model;
        text = new String(bytes, StandardCharsets.ISO_8859_1);
    }

    private void blanks() {
        while (at < text.length() && text.charAt(at) == ' ') {
            at++;
        }
    }

    /** The word that begins here, or "" . */
    private String word() {
        blanks();
        int to = at;
        while (to < text.length() && text.charAt(to) >= 'a' && text.charAt(to) <= 'z') {
            to++;
        }
        return text.substring(at, to);
    }

    private boolean takeWord(String wanted) {
        if (word().equals(wanted)) {
            at += wanted.length();
            return true;
        }
        return false;
    }

    /** The sign that begins here, or "" at the end. */
    private String sign() {
        blanks();
        if (text.startsWith("<=", at) || text.startsWith(">=", at)) {
            return text.substring(at, at + 2);
        }
        return at < text.length() ? text.substring(at, at + 1) : "";
    }

    private boolean takeSign(String wanted) {
        if (sign().equals(wanted)) {
            at += wanted.length();
            return true;
        }
        return false;
    }

    private PlainModel.Fault fault(int kind) {
        blanks();
        return new PlainModel.Fault(at, kind);
    }

    /** The digits that begin here, or "" . */
    private String digits() {
        blanks();
        int to = at;
        while (to < text.length() && Character.isDigit(text.charAt(to)) && text.charAt(to) < 128) {
            to++;
        }
        return text.substring(at, to);
    }

    private int number(int least, int most) {
        String digits = digits();
        if (digits.isEmpty()) {
            throw fault(0);
        }
        if (digits.length() > 5 || Integer.parseInt(digits) < least || Integer.parseInt(digits) > most) {
            throw fault(1);
        }
        at += digits.length();
        return Integer.parseInt(digits);
    }

    private boolean atEnd() {
        blanks();
        return at == text.length();
    }

    PlainModel.Told street() {
        PlainModel.Told told = new PlainModel.Told();
        List<Integer> bare = new ArrayList<>();
        for (int clauses = 0; ; clauses++) {
            String word = word();
            if (!List.of("street", "thing", "painter", "coat", "bare", "rain", "suit").contains(word)) {
                throw fault(0);
            }
            boolean many = clauses == 40 || clauses == 0 && !word.equals("street") || clauses > 0 && word.equals("street")
                || word.equals("thing") && told.things.size() == 4 || word.equals("painter") && told.painters.size() == 4
                || word.equals("rain") && told.rains.size() == 5 || word.equals("suit") && told.suit;
            if (many) {
                throw fault(4);
            }
            at += word.length();
            clause(told, word, bare);
            if (atEnd()) {
                break;
            }
            if (!takeSign(";")) {
                throw fault(0);
            }
        }
        for (int t = 0; t < told.things.size(); t++) {
            told.begin.bare.add(bare.contains(t));
            PlainModel.Thing thing = told.things.get(t);
            for (int c = thing.first; c < thing.first + thing.cells && bare.contains(t); c++) {
                told.begin.coats.get(c).clear();
            }
        }
        return told;
    }

    private void clause(PlainModel.Told told, String word, List<Integer> bare) {
        switch (word) {
            case "street" -> {
                told.dry = number(1, 9);
                told.part = number(1, 100);
                told.cost = number(0, 9);
            }
            case "thing" -> {
                PlainModel.Thing thing = new PlainModel.Thing();
                thing.first = told.cells;
                thing.cells = number(1, Math.min(6, 16 - told.cells));
                thing.rent = number(0, 20);
                told.cells += thing.cells;
                told.things.add(thing);
                for (int c = 0; c < thing.cells; c++) {
                    told.begin.coats.add(new ArrayList<>());
                }
            }
            case "painter" -> {
                told.painters.add(new int[] {number(0, 8)});
                told.begin.purses.add(number(0, 99));
            }
            case "coat" -> {
                List<PlainModel.Coat> coats = null;
                int cell = number(0, told.cells - 1);
                coats = told.begin.coats.get(cell);
                coats.add(new PlainModel.Coat(number(0, told.painters.size() - 1), -1));
                if (coats.size() > 5) {
                    coats.remove(0);
                }
            }
            case "bare" -> bare.add(number(0, told.things.size() - 1));
            case "rain" -> {
                int first = number(0, 199);
                told.rains.add(new int[] {first, number(first, 199)});
            }
            default -> told.suit = true;
        }
    }

    List<PlainModel.Clause> rule() {
        List<PlainModel.Clause> clauses = new ArrayList<>();
        while (true) {
            if (!word().equals("paint")) {
                throw fault(0);
            }
            if (clauses.size() == 12) {
                throw fault(4);
            }
            takeWord("paint");
            PlainModel.Clause clause = new PlainModel.Clause();
            clause.sum = sum();
            if (takeWord("if")) {
                clause.test = test(0);
            }
            clauses.add(clause);
            if (atEnd()) {
                return clauses;
            }
            if (!takeSign(";")) {
                throw fault(0);
            }
        }
    }

    private PlainModel.Test test(int depth) {
        PlainModel.Test left = part(depth);
        while (takeWord("or")) {
            PlainModel.Test a = left;
            PlainModel.Test b = part(depth);
            left = (s, p, c) -> a.of(s, p, c) || b.of(s, p, c);
        }
        return left;
    }

    private PlainModel.Test part(int depth) {
        PlainModel.Test left = fact(depth);
        while (takeWord("and")) {
            PlainModel.Test a = left;
            PlainModel.Test b = fact(depth);
            left = (s, p, c) -> a.of(s, p, c) && b.of(s, p, c);
        }
        return left;
    }

    private PlainModel.Test fact(int depth) {
        if (word().equals("not") || sign().equals("[")) {
            if (depth == 10) {
                throw fault(2);
            }
            if (takeWord("not")) {
                PlainModel.Test inner = fact(depth + 1);
                return (s, p, c) -> !inner.of(s, p, c);
            }
            takeSign("[");
            PlainModel.Test inner = test(depth + 1);
            if (!takeSign("]")) {
                throw fault(0);
            }
            return inner;
        }
        PlainModel.Sum a = sum();
        String sign = sign();
        if (!List.of("<", "<=", "=", ">=", ">").contains(sign)) {
            throw fault(0);
        }
        if (made == 60) {
            throw fault(3);
        }
        made++;
        at += sign.length();
        PlainModel.Sum b = sum();
        return (s, p, c) -> {
            int order = Long.compare(a.of(s, p, c), b.of(s, p, c));
            return sign.contains("<") && order < 0 || sign.contains("=") && order == 0 || sign.contains(">") && order > 0;
        };
    }

    private PlainModel.Sum sum() {
        PlainModel.Sum left = term();
        while (sign().equals("+") || sign().equals("-")) {
            boolean plus = takeSign("+") || !takeSign("-");
            PlainModel.Sum a = left;
            PlainModel.Sum b = term();
            left = plus ? (s, p, c) -> a.of(s, p, c) + b.of(s, p, c) : (s, p, c) -> a.of(s, p, c) - b.of(s, p, c);
        }
        return left;
    }

    private PlainModel.Sum term() {
        PlainModel.Sum left = value();
        while (!sign().isEmpty() && "*/%".contains(sign())) {
            String sign = sign();
            at++;
            PlainModel.Sum a = left;
            PlainModel.Sum b = value();
            left = (s, p, c) -> {
                long x = a.of(s, p, c);
                long y = b.of(s, p, c);
                return sign.equals("*") ? x * y : y == 0 ? 0 : sign.equals("/") ? x / y : x % y;
            };
        }
        return left;
    }

    private static final List<String> WORDS = List.of("painter", "cell", "thing", "rent", "top", "wet", "whose", "mine",
        "owner", "coats", "purse", "hour", "rain");

    private PlainModel.Sum value() {
        String word = word();
        String digits = digits();
        if (!WORDS.contains(word) && digits.isEmpty()) {
            throw fault(0);
        }
        if (digits.length() > 5) {
            throw fault(1);
        }
        if (made == 60) {
            throw fault(3);
        }
        made++;
        at += word.length() + digits.length();
        if (!digits.isEmpty()) {
            long number = Long.parseLong(digits);
            return (s, p, c) -> number;
        }
        return (s, p, c) -> fact(word, s, p, c);
    }

    private long fact(String word, PlainModel.State s, int p, int c) {
        PlainModel.Told told = model.all.told;
        int t = told.thingOf(c);
        List<PlainModel.Coat> coats = s.coats.get(c);
        PlainModel.Coat top = coats.isEmpty() ? null : coats.get(coats.size() - 1);
        return switch (word) {
            case "painter" -> p;
            case "cell" -> c;
            case "thing" -> t;
            case "rent" -> told.things.get(t).rent;
            case "top" -> top == null ? -1 : top.painter;
            case "wet" -> top != null && model.wet(told, top, s.hour) ? 1 : 0;
            case "whose" -> model.ownerOfCell(told, coats, s.hour);
            case "mine" -> model.owned(told, s, t, p);
            case "owner" -> model.ownerOfThing(told, s, t, told.part);
            case "coats" -> coats.size();
            case "purse" -> s.purses.get(p);
            case "hour" -> s.hour;
            default -> told.rains(s.hour) ? 1 : 0;
        };
    }
}
