/** The document's sentences on a rule's text, and on what its words and signs mean: promises 5 and 6. */
public final class RuleSentencesTest {
    private static final int MIN = Sentences.MIN;
    private static final int MAX = Sentences.MAX;

    private RuleSentencesTest() {
    }

    public static void main(String[] args) {
        Sentences t = new Sentences(true);
        all(t);
        t.close("RuleSentencesTest");
    }

    static void all(Sentences t) {
        rule(t);
        force(t);
        texts(t);
        forms(t);
        sums(t);
        words(t);
        wordsOfOwners(t);
        numbers(t);
        blanks(t);
        limits(t);
        faults(t);
        leastFaults(t);
    }

    /** 1 if a test holds for the painter and the cell of a street with one of each, 0 if not, or its fault. */
    private static int holds(String test) {
        LatestCoat x = Due.on("street 1 50 0;thing 1 0;painter 1 0");
        int rule = Due.rule(x, "paint 1 if " + test);
        x.force(0);
        int painted = x.hour();
        return rule == 0 ? painted : rule;
    }

    /** A street at HOUR 1, in which it rains, with cells that are bare, dry, wet and wet above dry. */
    private static LatestCoat told() {
        LatestCoat x = Due.on("street 3 50 2;thing 2 7;thing 3 9;painter 1 20;painter 2 30;"
            + "coat 0 0;coat 2 1;coat 3 1;coat 3 0;rain 1 1");
        x.paint(3, 1);
        x.paint(4, 1);
        x.hour();
        return x;
    }

    /** 1 if a test holds for a painter and a cell of the street told above. */
    private static int holdsOf(int painter, int cell, String test) {
        LatestCoat x = told();
        int rule = Due.rule(x, "paint 1 if painter=" + painter + " and cell=" + cell + " and [" + test + "]");
        x.force(0);
        int painted = x.hour();
        return rule == 0 ? painted : rule;
    }

    private static void rule(Sentences t) {
        t.test(5, "The TAPE, which is empty then, is a RULE: its number", () -> {
            LatestCoat x = new LatestCoat();
            t.is("without a street", Due.rule(x, "paint 1"), 0);
            t.is("the tape", x.count(15), 0);
            t.is("the next", Due.rule(x, "paint 2"), 1);
            t.is("rules", x.count(7), 2);
            t.is("none is in force by that", x.count(8), -1);
        });
        t.test(5, "-2 - its FAULT", () -> {
            LatestCoat x = told();
            Due.rule(x, "paint 1");
            x.force(0);
            String before = Due.seen(x);
            t.is("fault", Due.rule(x, "paint 2;paint"), Due.fault(13, Due.CANT_STAND));
            t.same("nothing else", before, Due.seen(x));
            t.is("an empty one", x.rule(), -3);
            t.is("its number goes to the next", Due.rule(x, "paint 3"), 1);
        });
        t.test(5, "NONE, and nothing happens: there are 6.", () -> {
            LatestCoat x = new LatestCoat();
            for (int k = 0; k < 6; k++) {
                t.is("rule", Due.rule(x, "paint " + k), k);
            }
            Due.tape(x, "paint 6");
            t.is("a seventh", x.rule(), -1);
            t.is("its tape stays", x.count(15), 7);
            t.is("six", x.count(7), 6);
            Due.tape(x, "paint!!");
            t.is("with a fault too", x.rule(), -1);
            x.end(0);
            t.is("and without a text", x.rule(), -1);
        });
        t.test(5, "RULES 0 to 5", () -> {
            LatestCoat x = Due.on("street 1 50 0;thing 6 0;painter 1 0");
            for (int k = 0; k < 6; k++) {
                Due.rule(x, "paint 1 if cell=" + k);
            }
            for (int k = 0; k < 6; k++) {
                x.force(k);
                x.hour();
                t.is("rule " + k + " is the one told", x.coat(k, 0, 2), k);
            }
        });
    }

    private static void force(Sentences t) {
        t.test(6, "A RULE is IN FORCE (NONE: none): which was", () -> {
            LatestCoat x = Due.on("street 1 50 0;thing 2 0;painter 1 0");
            for (int k = 0; k < 6; k++) {
                Due.rule(x, "paint " + k);
            }
            t.is("none was", x.force(5), -1);
            t.is("the last was", x.force(0), 5);
            t.is("it is in force", x.count(8), 0);
            t.is("0, so nobody paints", x.hour(), 0);
            x.force(1);
            t.is("1, so he does", x.hour(), 1);
            t.is("again", x.force(1), 1);
            t.is("none", x.force(-1), 1);
            t.is("nobody paints", x.hour(), 0);
            t.is("none was", x.force(-1), -1);
        });
        t.test(6, "-2, and nothing happens, if there is none such.", () -> {
            LatestCoat x = new LatestCoat();
            t.is("without rules", x.force(0), -2);
            Due.rule(x, "paint 1");
            Due.rule(x, "paint 2");
            x.force(1);
            for (int rule : new int[] {2, 5, 6, -2, MIN, MAX}) {
                t.is("force " + rule, x.force(rule), -2);
                t.is("still in force", x.count(8), 1);
            }
        });
    }

    private static void texts(Sentences t) {
        t.test(5, "texts likewise", () -> {
            LatestCoat x = new LatestCoat();
            t.is("of 400 bytes", Due.rule(x, "paint" + " ".repeat(384) + "1;  paint 2"), 0);
            t.is("of 400 bytes, to a word's last letter", Due.rule(x, "paint" + " ".repeat(392) + "top"), 1);
            t.ruleFault("paint 1 if 1" + " ".repeat(387) + "<^", Due.CANT_STAND);
            t.ruleFault("paint 1 if 1" + " ".repeat(386) + "<=^", Due.CANT_STAND);
            t.ruleFault("^", Due.CANT_STAND);
            t.ruleFault("^;paint 1", Due.CANT_STAND);
            t.ruleFault("paint 1;^", Due.CANT_STAND);
            t.ruleFault("paint 1;^;paint 1", Due.CANT_STAND);
            t.ruleFault("paint 1 ^paint 1", Due.CANT_STAND);
        });
        t.test(5, "12 CLAUSES at most", () -> {
            String eleven = "paint 7 if hour>5;".repeat(11);
            LatestCoat x = Due.on("street 1 50 0;thing 1 0;painter 1 0");
            t.is("twelve", Due.rule(x, eleven + "paint 1"), 0);
            x.force(0);
            t.is("the twelfth holds", x.hour(), 1);
            t.ruleFault(eleven + "paint 1;^paint 1", Due.CLAUSE_TOO_MANY);
        });
    }

    private static void forms(Sentences t) {
        t.test(5, "paint SUM [ if TEST ]", () -> {
            LatestCoat x = new LatestCoat();
            t.is("without", Due.rule(x, "paint 1"), 0);
            t.is("with", Due.rule(x, "paint 1 if 1=1"), 1);
            t.is("in turn", Due.rule(x, "paint 1 if 1=1;paint 1;paint 1 if 1=1"), 2);
            t.ruleFault("paint ^if 1=1", Due.CANT_STAND);
            t.ruleFault("paint 1 if 1=1 ^if 1=1", Due.CANT_STAND);
            t.ruleFault("paint 1 ^[if 1=1]", Due.CANT_STAND);
            t.ruleFault("paint 1^=1", Due.CANT_STAND);
        });
        t.test(5, "TEST: PART { or PART }.", () -> {
            t.is("one", holds("1=2 or 1=1"), 1);
            t.is("none", holds("1=2 or 2=1 or 3=1"), 0);
            t.is("the last", holds("1=2 or 2=1 or 1=1"), 1);
            t.is("and goes ahead of or", holds("1=1 or 1=2 and 1=2"), 1);
            t.is("on either side", holds("1=2 and 1=2 or 1=1"), 1);
        });
        t.test(5, "PART: FACT { and FACT }.", () -> {
            t.is("both", holds("1=1 and 2=2"), 1);
            t.is("the last not", holds("1=1 and 2=2 and 1=2"), 0);
            t.is("the first not", holds("1=2 and 1=1"), 0);
        });
        t.test(5, "FACT: not FACT", () -> {
            t.is("not", holds("not 1=2"), 1);
            t.is("not not", holds("not not 1=2"), 0);
            t.is("of one fact alone", holds("not 1=2 and 1=2"), 0);
            t.is("of one fact alone, by or", holds("not 1=1 or 1=1"), 1);
            t.is("of brackets", holds("not [1=1 and 1=2]"), 1);
        });
        t.test(5, "[ TEST ] (these brackets are signs)", () -> {
            t.is("or within", holds("[1=1 or 1=1] and 1=2"), 0);
            t.is("within brackets", holds("[[[1=1]]]"), 1);
            t.ruleFault("paint ^[1]", Due.CANT_STAND);
            t.ruleFault("paint 1 if [1=1^", Due.CANT_STAND);
            t.ruleFault("paint 1 if 1=1^]", Due.CANT_STAND);
            t.ruleFault("paint 1 if [^]", Due.CANT_STAND);
            t.ruleFault("paint 1 if [1=1^;paint 1", Due.CANT_STAND);
        });
        t.test(5, "SUM SIGN SUM, SIGN one of < <= = >= >.", () -> {
            String[] signs = {"<", "<=", "=", ">=", ">"};
            int[] less = {1, 1, 0, 0, 0};
            int[] alike = {0, 1, 1, 1, 0};
            int[] more = {0, 0, 0, 1, 1};
            for (int k = 0; k < signs.length; k++) {
                t.is("1" + signs[k] + "2", holds("1" + signs[k] + "2"), less[k]);
                t.is("2" + signs[k] + "2", holds("2" + signs[k] + "2"), alike[k]);
                t.is("3" + signs[k] + "2", holds("3" + signs[k] + "2"), more[k]);
                t.is("-1" + signs[k] + "0", holds("0-1" + signs[k] + "0"), less[k]);
                t.is("not 1" + signs[k] + "2", holds("not 1" + signs[k] + "2"), 1 - less[k]);
                t.is("not 2" + signs[k] + "2", holds("not 2" + signs[k] + "2"), 1 - alike[k]);
                t.is("not 3" + signs[k] + "2", holds("not 3" + signs[k] + "2"), 1 - more[k]);
                t.is("2" + signs[k] + "2 and so", holds("2" + signs[k] + "2 and 1=1"), alike[k]);
                t.is("so and 3" + signs[k] + "2", holds("1=1 and 3" + signs[k] + "2"), more[k]);
                t.is("not so or 1" + signs[k] + "2", holds("1=2 or 1" + signs[k] + "2"), less[k]);
            }
            t.ruleFault("paint 1 if 1<^>2", Due.CANT_STAND);
            t.ruleFault("paint 1 if 1=^<2", Due.CANT_STAND);
            t.ruleFault("paint 1 if 1=^=2", Due.CANT_STAND);
            t.ruleFault("paint 1 if 1< ^=2", Due.CANT_STAND);
            t.ruleFault("paint 1 if 1<=^=2", Due.CANT_STAND);
            t.ruleFault("paint 1 if 1^!=2", Due.CANT_STAND);
            t.ruleFault("paint 1 if 1<2^<3", Due.CANT_STAND);
        });
    }

    private static void sums(Sentences t) {
        t.test(5, "SUM: TERM { (+ or -) TERM }.", () -> {
            t.is("from the left", holds("10-3-2=5 and 10-3+2=9"), 1);
            t.is("terms first", holds("1+2*3=7 and 10-6/3=8 and 10-7%4=7 and 2*3+4*5=26"), 1);
            t.ruleFault("paint 1+^", Due.CANT_STAND);
            t.ruleFault("paint 1+^-1", Due.CANT_STAND);
            t.ruleFault("paint ^-1", Due.CANT_STAND);
            t.ruleFault("paint ^+1", Due.CANT_STAND);
        });
        t.test(5, "TERM: VALUE { (* or / or %) VALUE }.", () -> {
            t.is("from the left", holds("20/5*2=8 and 17%10/2=3 and 2*7%4=2 and 7%4*2=6"), 1);
            t.ruleFault("paint 1*^", Due.CANT_STAND);
            t.ruleFault("paint 1*^*1", Due.CANT_STAND);
            t.ruleFault("paint ^%1", Due.CANT_STAND);
        });
        t.test(5, "VALUE: NUMBER (1 to 5 digits, as far as digits go on)", () -> {
            t.is("one", holds("0<1"), 1);
            t.is("five", holds("99999=100*1000-1"), 1);
            t.is("with noughts", holds("00007=7"), 1);
            t.ruleFault("paint ^100000", Due.BAD_NUMBER);
            t.ruleFault("paint ^000000", Due.BAD_NUMBER);
            t.ruleFault("paint 1 ^2", Due.CANT_STAND);
        });
        t.test(5, "WORD. WORDS (small letters, as far as these go on)", () -> {
            t.is("up to a digit", holds("1=1and 2=2or 3=3"), 1);
            t.is("up to a sign", holds("top+1=cell"), 1);
            t.ruleFault("paint ^Top", Due.CANT_STAND);
            t.ruleFault("paint ^topcell", Due.CANT_STAND);
            t.ruleFault("paint ^to", Due.CANT_STAND);
            t.ruleFault("paint ^tops", Due.CANT_STAND);
            t.ruleFault("paint top^A", Due.CANT_STAND);
            t.ruleFault("paint 1 if ^notwet=1", Due.CANT_STAND);
            t.ruleFault("paint 1 if wet=1 ^andtop=1", Due.CANT_STAND);
            t.ruleFault("^paints 1", Due.CANT_STAND);
            t.ruleFault("^paintz 1", Due.CANT_STAND);
            t.ruleFault("paint ^topz", Due.CANT_STAND);
            t.ruleFault("paint ^atop", Due.CANT_STAND);
            for (String word : new String[] {"street", "coat", "bare", "suit", "paint", "if", "and", "or", "not"}) {
                t.ruleFault("paint ^" + word, Due.CANT_STAND);
                t.ruleFault("paint 1 if 1=^" + word, Due.CANT_STAND);
            }
        });
        t.test(5, "/ is towards 0, % its rest, both 0 by 0", () -> {
            // top is -1 in that street
            t.is("below 0", holds("top*7/2=0-3 and top*7%2=0-1 and top*7/4=0-1 and top*7%4=0-3"), 1);
            t.is("by one below 0", holds("7/top=0-7 and 7%top=0 and 0/top=0"), 1);
            t.is("by 0", holds("5/0=0 and 5%0=0 and 0/0=0 and 0%0=0 and top/cell=0 and top%cell=0"), 1);
            t.is("above 0", holds("7/2=3 and 7%2=1 and 1/2=0 and 1%2=1"), 1);
        });
        t.test(5, "all goes round in 64 bits", () -> {
            t.is("to 0", holds("65536*65536*65536*65536=0"), 1);
            t.is("below 0", holds("65536*65536*65536*32768<0"), 1);
            t.is("not in 63", holds("65536*65536*65536*16384>0"), 1);
            t.is("1 less than the least", holds("65536*65536*65536*32768-1>0"), 1);
            t.is("1 more than the greatest", holds("65536*65536*65536*32768-1+1<0"), 1);
            t.is("the least by -1", holds("65536*65536*65536*32768/top<0 and 65536*65536*65536*32768%top=0"), 1);
            t.is("not in 32", holds("65536*65536>0 and 65536*32768>0"), 1);
        });
    }

    private static void words(Sentences t) {
        t.test(5, "of a PAINTER and a CELL: painter, cell, thing, rent", () -> {
            t.is("painter 0", holdsOf(0, 0, "painter=0"), 1);
            t.is("painter 1", holdsOf(1, 0, "painter=1"), 1);
            t.is("cell 0", holdsOf(0, 0, "cell=0"), 1);
            t.is("cell 4", holdsOf(0, 4, "cell=4"), 1);
            t.is("thing 0", holdsOf(0, 1, "thing=0"), 1);
            t.is("thing 1", holdsOf(0, 2, "thing=1"), 1);
            t.is("rent 7", holdsOf(0, 1, "rent=7"), 1);
            t.is("rent 9", holdsOf(0, 2, "rent=9"), 1);
        });
        t.test(5, "top (who painted the top coat, wet or dry; -1 none)", () -> {
            t.is("dry", holdsOf(1, 0, "top=0"), 1);
            t.is("wet", holdsOf(0, 4, "top=1"), 1);
            t.is("wet above dry", holdsOf(0, 3, "top=1"), 1);
            t.is("none", holdsOf(0, 1, "top=0-1"), 1);
        });
        t.test(5, "wet (1 if that is wet, else 0)", () -> {
            t.is("wet", holdsOf(0, 4, "wet=1"), 1);
            t.is("dry", holdsOf(0, 0, "wet=0"), 1);
            t.is("no coat", holdsOf(0, 1, "wet=0"), 1);
            LatestCoat x = Due.on("street 9 50 0;thing 1 0;painter 1 0");
            Due.rule(x, "paint 1 if wet=0");
            x.force(0);
            t.is("no coat, where they are long wet", x.hour(), 1);
        });
        t.test(5, "coats (of the CELL), purse, hour", () -> {
            t.is("no coats", holdsOf(0, 1, "coats=0"), 1);
            t.is("three coats", holdsOf(0, 3, "coats=3"), 1);
            t.is("purse of painter 0", holdsOf(0, 3, "purse=20"), 1);
            t.is("purse of painter 1, as it is", holdsOf(1, 3, "purse=26"), 1);
            t.is("hour", holdsOf(0, 0, "hour=1"), 1);
            t.is("hour 0", holds("hour=0"), 1);
        });
        t.test(5, "rain (1 in it, else 0)", () -> {
            t.is("in it", holdsOf(0, 0, "rain=1"), 1);
            t.is("not", holds("rain=0"), 1);
            LatestCoat x = Due.on("street 1 50 0;thing 1 0;painter 1 0;rain 1 2");
            Due.rule(x, "paint 1 if rain=1");
            x.force(0);
            t.is("ahead of the first", x.hour(), 0);
            t.is("the first", x.hour(), 1);
            t.is("the last", x.hour(), 1);
            t.is("behind the last", x.hour(), 0);
        });
    }

    private static void wordsOfOwners(Sentences t) {
        t.test(5, "whose (who owns the CELL; -1)", () -> {
            t.is("dry", holdsOf(1, 0, "whose=0"), 1);
            t.is("the other", holdsOf(0, 2, "whose=1"), 1);
            t.is("wet above dry", holdsOf(1, 3, "whose=0"), 1);
            t.is("wet alone", holdsOf(1, 4, "whose=0-1"), 1);
            t.is("no coat", holdsOf(1, 1, "whose=0-1"), 1);
        });
        t.test(5, "mine (CELLS of its THING they own)", () -> {
            t.is("one of thing 0", holdsOf(0, 1, "mine=1"), 1);
            t.is("none of thing 0", holdsOf(1, 1, "mine=0"), 1);
            t.is("one of thing 1, wet ones not", holdsOf(1, 4, "mine=1"), 1);
            LatestCoat x = Due.on("street 1 50 0;thing 6 0;painter 1 0;painter 2 0;coat 0 1;coat 1 1;coat 2 1;coat 3 1;coat 4 1;coat 5 1");
            Due.rule(x, "paint 1 if painter=1 and mine=6");
            x.force(0);
            t.is("six", x.hour(), 1);
        });
        t.test(5, "owner (of its THING; -1)", () -> {
            t.is("his", holdsOf(1, 1, "owner=0"), 1);
            t.is("nobody's", holdsOf(1, 2, "owner=0-1"), 1);
        });
        t.test(12, "An HOUR: (1) by the RULE IN FORCE each PAINTER, by numbers, as all is then", () -> {
            LatestCoat x = Due.on("street 1 50 1;thing 2 0;painter 1 5;painter 2 5;painter 3 5;painter 4 5");
            Due.rule(x, "paint 9-coats*4-cell if painter<3;paint 1 if wet=1 and top=2 and cell=0 and purse=5");
            x.force(0);
            t.is("four", x.hour(), 4);
            t.is("the first had the first", x.coat(0, 2, 0), 0);
            t.is("the second saw it", x.coat(1, 0, 0), 1);
            t.is("the third saw both", x.coat(0, 1, 0), 2);
            t.is("the fourth saw the third's", x.coat(0, 0, 0), 3);
            LatestCoat suit = Due.on("street 1 50 0;thing 1 0;painter 1 0;painter 2 0;coat 0 1;suit");
            Due.rule(suit, "paint 1 if painter=0;paint 1 if whose=0-1 and mine=0 and owner=0-1");
            suit.force(0);
            t.is("by the first's wet coat it is nobody's for the second", suit.hour(), 2);
            LatestCoat wide = Due.on("street 1 50 0;thing 6 0;thing 6 0;thing 3 0;thing 1 0;painter 1 0;rain 0 0");
            Due.rule(wide, "paint cell");
            wide.force(0);
            t.is("on a full street", wide.hour(), 1);
            t.is("in rain", wide.cell(15, 1), 0);
            wide.hour();
            t.is("the last cell", wide.cell(15, 1), 1);
        });
    }

    private static void numbers(Sentences t) {
        t.test(5, "1 + 8 * its place and", () -> {
            t.is("place 0, kind 0", Due.rule(new LatestCoat(), "!"), -2 - 1);
            t.is("place 6, kind 1", Due.rule(new LatestCoat(), "paint 123456"), -2 - (1 + 8 * 6 + 1));
            t.is("place 400, kind 0", Due.rule(new LatestCoat(), "paint 1" + " ".repeat(392) + "+"), -2 - (1 + 8 * 400));
        });
        t.test(5, "FAULTS, the first along the text", () -> {
            t.ruleFault("paint ^123456;paint;print", Due.BAD_NUMBER);
            t.ruleFault("paint 1;^print 123456", Due.CANT_STAND);
            t.ruleFault("paint 1 if " + "[".repeat(10) + "^[!", Due.TOO_DEEP);
            t.ruleFault("paint 1" + "+1".repeat(59) + "+^1 if !", Due.VALUE_TOO_MANY);
            t.ruleFault("paint 1;".repeat(12) + "^paint !", Due.CLAUSE_TOO_MANY);
        });
        t.test(5, "0 a byte or WORD that can't stand there", () -> {
            t.ruleFault("^street 1 50 0", Due.CANT_STAND);
            t.ruleFault("^1", Due.CANT_STAND);
            t.ruleFault("paint ^(1)", Due.CANT_STAND);
            t.ruleFault("paint 1^.5", Due.CANT_STAND);
            t.ruleFault("paint 1 ^top", Due.CANT_STAND);
            t.ruleFault("paint ^not 1", Due.CANT_STAND);
            t.ruleFault("paint 1 ^and 1=1", Due.CANT_STAND);
            t.ruleFault("paint 1 if 1=1 and^;", Due.CANT_STAND);
            t.ruleFault("paint 1 if ^or 1=1", Due.CANT_STAND);
            t.ruleFault("paint 1 if not ^and", Due.CANT_STAND);
            t.ruleFault("paint 1 if 1^;paint 1", Due.CANT_STAND);
            t.ruleFault("paint 1 if [1^]=1", Due.CANT_STAND);
            t.ruleFault("paint 1 if [1=1]^=1", Due.CANT_STAND);
            t.ruleFault("paint ^>=1", Due.CANT_STAND);
            t.ruleFault("paint 1 if ^<=1", Due.CANT_STAND);
            t.ruleFault("paint 1 if 1 ^2 3", Due.CANT_STAND);
            t.ruleFault("^" + ";".repeat(400), Due.CANT_STAND);
            for (int sign = 0; sign < 256; sign++) {
                if ("abcdefghijklmnopqrstuvwxyz0123456789+-*/%<=>[]; ^".indexOf(sign) < 0) {
                    t.ruleFault("^" + (char) sign + "paint 1", Due.CANT_STAND);
                    t.ruleFault("paint ^" + (char) sign + "1", Due.CANT_STAND);
                    t.ruleFault("paint 1 if ^" + (char) sign + "1=1", Due.CANT_STAND);
                    t.ruleFault("paint 1 if 1^" + (char) sign + "1", Due.CANT_STAND);
                    t.ruleFault("paint 1^" + (char) sign, Due.CANT_STAND);
                }
            }
            t.is("^, which marks a place here", Due.rule(new LatestCoat(), "paint 1 if ^1=1"), Due.fault(11, Due.CANT_STAND));
            t.ruleFault("paint^\t1", Due.CANT_STAND);
            t.ruleFault("paint 1^\0", Due.CANT_STAND);
            t.ruleFault("paint 1^\u00e9", Due.CANT_STAND);
            t.ruleFault("paint 1^\u00bb", Due.CANT_STAND);
        });
        t.test(5, "or the end (behind the last byte)", () -> {
            t.ruleFault("^", Due.CANT_STAND);
            t.ruleFault("  ^", Due.CANT_STAND);
            t.ruleFault("paint^", Due.CANT_STAND);
            t.ruleFault("paint 1+ ^", Due.CANT_STAND);
            t.ruleFault("paint 1%^", Due.CANT_STAND);
            t.ruleFault("paint 1 if^", Due.CANT_STAND);
            t.ruleFault("paint 1 if not^", Due.CANT_STAND);
            t.ruleFault("paint 1 if [^", Due.CANT_STAND);
            t.ruleFault("paint 1 if 1^", Due.CANT_STAND);
            t.ruleFault("paint 1 if 1<^", Due.CANT_STAND);
            t.ruleFault("paint 1 if 1<=^", Due.CANT_STAND);
            t.ruleFault("paint 1 if 1=1 and^", Due.CANT_STAND);
            t.ruleFault("paint 1 if 1=1 or^", Due.CANT_STAND);
            t.ruleFault("paint 1 if [1=1^", Due.CANT_STAND);
            t.ruleFault("paint 1;^", Due.CANT_STAND);
        });
        t.test(5, "1 a NUMBER of more digits", () -> {
            t.ruleFault("paint top+^000000", Due.BAD_NUMBER);
            t.ruleFault("paint 1 if ^123456=1", Due.BAD_NUMBER);
            t.ruleFault("paint 1 if 1=^4294967297", Due.BAD_NUMBER);
            t.ruleFault("paint ^" + "1".repeat(394), Due.BAD_NUMBER);
            t.is("five", Due.rule(new LatestCoat(), "paint 99999 if 99999=00000"), 0);
        });
    }

    private static void blanks(Sentences t) {
        t.test(5, "Blanks (32) stand between as one likes.", () -> {
            t.is("none", holds("[not 1=2and not 1>=2or 1<2]and 1<=1"), 1);
            t.is("many", holds("  [  not   1  =  2  and  not  1  >=  2  ]  "), 1);
            t.is("around clauses", Due.rule(new LatestCoat(), "  paint  1  ;  paint  2  "), 0);
            t.is("none behind paint", Due.rule(new LatestCoat(), "paint1;paint2if1=1"), 0);
            t.ruleFault("paint 1 if 1> ^=2", Due.CANT_STAND);
            t.ruleFault("paint ^to p", Due.CANT_STAND);
            t.ruleFault("paint 1 ^0", Due.CANT_STAND);
        });
    }

    private static void limits(Sentences t) {
        t.test(5, "[ and not lie within one another 10 deep at most", () -> {
            t.is("ten brackets", holds("[".repeat(10) + "1=1" + "]".repeat(10)), 1);
            t.is("ten nots", holds("not ".repeat(10) + "1=1"), 1);
            t.is("five of each", holds("not [".repeat(5) + "1=1" + "]".repeat(5)), 0);
            t.is("side by side", holds("[1=1] and ".repeat(15) + "not ".repeat(10) + "1=1"), 1);
            t.is("behind ten that are closed", holds("[".repeat(10) + "1=1" + "]".repeat(10) + " and not 1=2"), 1);
            t.is("within nine", holds("[".repeat(9) + "[1=1] and not 1=2" + "]".repeat(9)), 1);
            t.ruleFault("paint 1 if " + "[".repeat(10) + "^[1=1" + "]".repeat(11), Due.TOO_DEEP);
            t.ruleFault("paint 1 if " + "not ".repeat(10) + "^not 1=1", Due.TOO_DEEP);
            t.ruleFault("paint 1;paint 1 if " + "[".repeat(10) + "1=1 or ^not 1=1" + "]".repeat(10), Due.TOO_DEEP);
        });
        t.test(5, "at most 60 VALUES (of SUMS) and FACTS made of a SIGN, together", () -> {
            LatestCoat x = new LatestCoat();
            t.is("60 values", Due.rule(x, "paint 1" + "+1".repeat(59)), 0);
            t.is("39 values and 19 facts", Due.rule(x, "paint 1 if " + "1=1 or ".repeat(18) + "1=1"), 1);
            t.is("58 with brackets and nots", Due.rule(x, "paint 1 if " + "not [1=1] or ".repeat(18) + "1=1"), 2);
            t.is("all 60", Due.rule(x, "paint 1+1+1 if " + "1=1 or ".repeat(18) + "1=1"), 3);
            t.is("60 in two clauses", Due.rule(x, "paint 1" + "+1".repeat(29) + ";paint 1" + "+1".repeat(29)), 4);
            t.is("60 again, so each text has its own", Due.rule(x, "paint 1" + "*1".repeat(59)), 5);
            t.ruleFault("paint 1" + "+1".repeat(59) + "+^1", Due.VALUE_TOO_MANY);
            t.ruleFault("paint 1" + "+1".repeat(29) + ";paint 1" + "+1".repeat(29) + "+^top", Due.VALUE_TOO_MANY);
            t.ruleFault("paint 1+1+1+1 if " + "1=1 or ".repeat(18) + "1=^1", Due.VALUE_TOO_MANY);
        });
    }

    private static void faults(Sentences t) {
        t.test(5, "2 too deep (at the sign that opens, or the word not)", () -> {
            t.ruleFault("paint 1 if " + "[".repeat(10) + "  ^[1=1", Due.TOO_DEEP);
            t.ruleFault("paint 1 if " + "not ".repeat(10) + "  ^not", Due.TOO_DEEP);
            t.ruleFault("paint 1 if " + "not[".repeat(5) + "^not 1=1", Due.TOO_DEEP);
            t.ruleFault("paint 1 if " + "[not ".repeat(5) + "^[1=1", Due.TOO_DEEP);
        });
        t.test(5, "3 one VALUE or FACT too many (at its first byte; of a FACT at its SIGN)", () -> {
            t.ruleFault("paint 1" + "+1".repeat(59) + "+  ^hour", Due.VALUE_TOO_MANY);
            t.ruleFault("paint 1" + "+1".repeat(59) + "+^12345", Due.VALUE_TOO_MANY);
            t.ruleFault("paint 1" + "+1".repeat(58) + " if 1  ^<=1", Due.VALUE_TOO_MANY);
            t.ruleFault("paint 1" + "+1".repeat(57) + " if 1=^1", Due.VALUE_TOO_MANY);
            t.ruleFault("paint 1" + "+1".repeat(59) + " if ^1=1", Due.VALUE_TOO_MANY);
            t.ruleFault("paint 1" + "+1".repeat(59) + ";paint ^1", Due.VALUE_TOO_MANY);
        });
        t.test(5, "4 one CLAUSE too many", () -> {
            t.ruleFault("paint 1;".repeat(12) + "  ^paint 1", Due.CLAUSE_TOO_MANY);
            t.ruleFault("paint 1;".repeat(12) + "^paint", Due.CLAUSE_TOO_MANY);
            t.ruleFault("paint 1 if 1=1;".repeat(12) + "^paint 1 if 1=1", Due.CLAUSE_TOO_MANY);
        });
    }

    private static void leastFaults(Sentences t) {
        t.test(5, "Of one place the least.", () -> {
            String sixty = "paint 1" + "+1".repeat(59);
            t.ruleFault(sixty + "+^123456", Due.BAD_NUMBER);
            t.ruleFault(sixty + "+^tops", Due.CANT_STAND);
            t.ruleFault(sixty + "+^", Due.CANT_STAND);
            t.ruleFault("paint 1" + "+1".repeat(58) + " if 1^]", Due.CANT_STAND);
            t.ruleFault("paint 1 ^123456", Due.CANT_STAND);
            t.ruleFault("paint 1 if " + "[".repeat(10) + "1+^[", Due.CANT_STAND);
            t.ruleFault("paint 1;".repeat(12) + "^pain", Due.CANT_STAND);
            t.ruleFault("paint 1;".repeat(12) + "^", Due.CANT_STAND);
        });
    }
}
