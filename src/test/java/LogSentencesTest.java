/** The document's sentences on logs, worth, draws, counts and images: promises 27 to 35. */
public final class LogSentencesTest {
    private static final int MIN = Sentences.MIN;
    private static final int MAX = Sentences.MAX;

    private LogSentencesTest() {
    }

    public static void main(String[] args) {
        Sentences t = new Sentences(true);
        all(t);
        t.close("LogSentencesTest");
    }

    static void all(Sentences t) {
        log(t);
        ruled(t);
        look(t);
        worth(t);
        seed(t);
        draws(t);
        years(t);
        yearsOfHours(t);
        count(t);
        images(t);
        back(t);
    }

    /** Two things of one cell, the first told to be painter 0's, and three rules that part in hours 1, 3 and 98. */
    private static LatestCoat told() {
        LatestCoat x = Due.on("street 1 50 0;thing 1 0;thing 1 0;painter 1 0;painter 2 0;coat 0 0");
        Due.rule(x, "paint 1 if painter=1 and cell=0 and hour=1");
        Due.rule(x, "paint 1 if painter=0 and cell=1 and hour=3");
        Due.rule(x, "paint 1 if painter=1 and cell=1 and hour=98");
        return x;
    }

    private static void log(Sentences t) {
        t.test(27, "LOGS 0 to 9, told: at the begin of the n-th HOUR of all (0 to 99) a PAINTER, or nobody (NONE), owned a THING.", () -> {
            LatestCoat x = told();
            x.log(1, 0, 0);
            t.is("at the begin of hour 1 all", x.ruled(0), 4);
            x.log(2, 0, 1);
            t.is("at the begin of hour 2 rule 0", x.ruled(0), 1);
            x.log(-1, 0, 0);
            x.log(99, 1, 1);
            t.is("at the begin of hour 99 rule 2", x.ruled(1), 2);
            x.log(-1, 0, 0);
            x.log(98, 1, -1);
            t.is("nobody", x.ruled(0), 3);
            x.log(-1, 0, 0);
            x.log(0, 0, 0);
            t.is("0", x.ruled(0), 4);
            x.log(0, 1, -1);
            t.is("0, nobody", x.ruled(0), 4);
            Due.hours(x, 5);
            t.is("of all, not from now on", x.ruled(0), 4);
        });
        t.test(27, "A LOG (n NONE: there are none then, 0; PAINTER NONE: nobody): how many", () -> {
            LatestCoat x = told();
            for (int k = 1; k <= 10; k++) {
                t.is("how many", x.log(0, 1, -1), k);
            }
            t.is("ten", x.count(12), 10);
            t.is("none then", x.log(-1, 0, 0), 0);
            t.is("none", x.count(12), 0);
            t.is("the rest is not looked at", x.log(-1, MIN, MAX), 0);
            t.is("without a street", new LatestCoat().log(-1, 0, 0), 0);
            t.is("a first one again", x.log(99, 0, 1), 1);
        });
        t.test(27, "-2, and nothing happens, without these, or if there are 10.", () -> {
            LatestCoat x = told();
            x.log(0, 0, 0);
            for (int bad : new int[] {-2, 100, MIN, MAX}) {
                t.is("n " + bad, x.log(bad, 0, 0), -2);
            }
            for (int bad : new int[] {-1, 2, 4, MIN, MAX}) {
                t.is("thing " + bad, x.log(0, bad, 0), -2);
            }
            for (int bad : new int[] {-2, 2, 4, MIN, MAX}) {
                t.is("painter " + bad, x.log(0, 0, bad), -2);
            }
            t.is("one is there", x.count(12), 1);
            for (int k = 2; k <= 10; k++) {
                x.log(0, 0, 0);
            }
            t.is("an eleventh", x.log(0, 0, 1), -2);
            t.is("ten", x.count(12), 10);
            t.is("it does not count", x.ruled(0), 4);
            t.is("no street", new LatestCoat().log(0, 0, 0), -2);
            t.is("no street, nobody", new LatestCoat().log(0, 0, -1), -2);
        });
    }

    private static void ruled(Sentences t) {
        t.test(28, "RULED: which of the RULES, and of none, so that from the begin on, all as the text told it, all LOGS are so", () -> {
            LatestCoat x = told();
            x.vote(0);
            x.paint(1, 1);
            x.force(2);
            Due.hours(x, 5);
            x.log(0, 0, 0);
            t.is("as the text told it", x.ruled(0), 4);
            x.log(4, 1, 0);
            t.is("rule 1, whichever is in force", x.ruled(1), 1);
            x.log(3, 1, -1);
            t.is("all logs, an earlier one told later", x.ruled(0), 1);
            x.log(3, 1, 0);
            t.is("two that can't both be", x.ruled(0), 0);
            LatestCoat purse = Due.on("street 1 50 1;thing 1 0;painter 1 1;coat 0 0");
            Due.rule(purse, "paint 1");
            purse.paint(0, 0);
            purse.log(1, 0, 0);
            t.is("by the purse that was told", purse.ruled(0), 2);
            LatestCoat rent = Due.on("street 1 50 3;thing 1 3;thing 1 0;painter 1 0;coat 0 0");
            Due.rule(rent, "paint 1 if cell=1");
            rent.log(13, 1, 0);
            t.is("by rents that were got at 12", rent.ruled(1), 0);
        });
        t.test(28, "how many; the first (none ahead of 0, told as NONE)", () -> {
            LatestCoat x = told();
            t.is("without logs all", x.ruled(0), 4);
            t.is("none is the first", x.ruled(1), -1);
            x.log(99, 1, 0);
            t.is("one", x.ruled(0), 1);
            t.is("the first", x.ruled(1), 1);
            t.is("no rules, but none", Due.on("street 1 50 0").ruled(0), 1);
            LatestCoat six = Due.on("street 1 50 0;thing 1 0;painter 1 0");
            for (int k = 0; k < 6; k++) {
                Due.rule(six, "paint 1 if hour=" + k);
            }
            t.is("seven", six.ruled(0), 7);
            six.log(6, 0, 0);
            t.is("six", six.ruled(0), 6);
            six.log(5, 0, -1);
            t.is("the last", six.ruled(1), 5);
        });
        t.test(28, "RULED what 0: how many, 1: the first (NONE: none; -2: there is none such)", () -> {
            LatestCoat x = told();
            x.log(0, 0, 1);
            t.is("how many", x.ruled(0), 0);
            t.is("none such", x.ruled(1), -2);
            x.log(-1, 0, 0);
            t.is("none", x.ruled(1), -1);
            x.log(50, 0, 1);
            t.is("rule 0", x.ruled(1), 0);
        });
        t.test(28, "-3 for others, or without a STREET.", () -> {
            LatestCoat x = told();
            for (int bad : new int[] {-1, 2, MIN, MAX}) {
                t.is("what " + bad, x.ruled(bad), -3);
            }
            t.is("no street", new LatestCoat().ruled(0), -3);
            t.is("no street", new LatestCoat().ruled(1), -3);
        });
    }

    private static void look(Sentences t) {
        t.test(29, "LOOK at the n-th HOUR (0 to 99)", () -> {
            LatestCoat x = told();
            t.is("-1", x.look(-1, 0), -1);
            t.is("0", x.look(0, 1), 4);
            t.is("1", x.look(1, 1), 4);
            t.is("2, by thing 0", x.look(2, 0), 0);
            t.is("2, three alike", x.look(2, 1), 3);
            t.is("98, three alike by either", x.look(98, 1), 3);
            t.is("99, by thing 1", x.look(99, 0), 1);
            t.is("99, two alike", x.look(99, 1), 2);
            t.is("100", x.look(100, 0), -1);
            Due.hours(x, 5);
            t.is("of all, not from now on", x.look(2, 0), 0);
        });
        t.test(29, "the THING by whose owner these part best: the most alike are fewest, of several the least; how many", () -> {
            LatestCoat x = told();
            t.is("all alike: the least", x.look(0, 0), 0);
            t.is("either parts 3 and 1: the least", x.look(50, 0), 0);
            t.is("three", x.look(50, 1), 3);
            x.log(2, 0, 0);
            t.is("without rule 0 by thing 1", x.look(50, 0), 1);
            t.is("two", x.look(50, 1), 2);
            t.is("all three apart", x.look(99, 1), 1);
            x.log(99, 1, 1);
            t.is("one alone", x.look(50, 1), 1);
            t.is("by the least", x.look(50, 0), 0);
            LatestCoat six = Due.on("street 1 50 0;thing 1 0;thing 1 0;painter 1 0;painter 2 0");
            for (int k = 0; k < 6; k++) {
                Due.rule(six, "paint 1 if cell=" + k % 2 + " and painter=" + k / 4);
            }
            // thing 0: rules 0 and 2 painter 0, rule 4 painter 1, four nobody; thing 1 likewise with rule 5
            t.is("the least of two", six.look(1, 0), 0);
            t.is("four of seven", six.look(1, 1), 4);
            LatestCoat wide = Due.on("street 1 50 0;thing 1 0;thing 1 0;thing 1 0;thing 1 0;painter 1 0");
            for (int k = 0; k < 6; k++) {
                Due.rule(wide, "paint 1 if cell=3 and hour=" + k);
            }
            t.is("all seven alike", wide.look(0, 1), 7);
            t.is("by the least of four", wide.look(0, 0), 0);
            t.is("by the last of four", wide.look(3, 0), 3);
            t.is("rules 3 to 5 and none", wide.look(3, 1), 4);
        });
        t.test(29, "LOOK what 0: the THING, 1: how many; -2: no RULE is so, or there are no THINGS.", () -> {
            LatestCoat x = told();
            x.log(0, 0, 1);
            t.is("no rule is so", x.look(0, 0), -2);
            t.is("no rule is so", x.look(99, 1), -2);
            LatestCoat none = Due.on("street 1 50 0;painter 1 0");
            Due.rule(none, "paint 1");
            t.is("no things", none.look(0, 0), -2);
            t.is("no things", none.look(0, 1), -2);
            LatestCoat last = told();
            last.log(99, 0, 0);
            t.is("a log behind the hour looked at counts", last.look(2, 1), 3);
        });
        t.test(29, "NONE without these, or a STREET.", () -> {
            LatestCoat x = told();
            for (int bad : new int[] {-1, 100, MIN, MAX}) {
                t.is("n " + bad, x.look(bad, 0), -1);
            }
            for (int bad : new int[] {-1, 2, MIN, MAX}) {
                t.is("what " + bad, x.look(0, bad), -1);
            }
            t.is("no street", new LatestCoat().look(0, 0), -1);
            t.is("no things, but n", Due.on("street 1 50 0").look(100, 0), -1);
        });
    }

    private static void worth(Sentences t) {
        t.test(30, "WORTH of a CELL to a PAINTER in n HOURS (1 to 100)", () -> {
            LatestCoat x = Due.on("street 2 50 9;thing 1 7;painter 1 0;painter 2 0;coat 0 1");
            t.is("0", x.worth(0, 0, 0), -100000);
            t.is("1", x.worth(0, 0, 1), 0);
            t.is("11", x.worth(0, 0, 11), 0);
            t.is("12", x.worth(0, 0, 12), 7);
            t.is("100", x.worth(0, 0, 100), 28);
            t.is("101", x.worth(0, 0, 101), -100000);
            Due.hours(x, 10);
            t.is("2, dry just then", x.worth(0, 0, 2), 7);
            x.hour();
            t.is("1, wet yet", x.worth(0, 0, 1), 0);
        });
        t.test(30, "by how much more RENT they get, if they paint it now (COST and PURSE not asked, COST not taken), than if not", () -> {
            LatestCoat x = Due.on("street 1 50 9;thing 1 7;painter 1 8;painter 2 99;coat 0 1");
            Due.rule(x, "paint 1 if painter=0 and hour=3");
            t.is("by a purse below COST", x.worth(0, 0, 36), 14);
            LatestCoat y = Due.on("street 1 100 1;thing 2 7;painter 1 1;painter 2 1;coat 0 1");
            Due.rule(y, "paint 1 if painter=0 and cell=0 and hour=1");
            y.force(0);
            t.is("COST is not taken: by the rule he has it yet", y.worth(1, 0, 12), 7);
            LatestCoat own = Due.on("street 1 50 0;thing 1 7;painter 1 0;coat 0 0");
            t.is("his already", own.worth(0, 0, 100), 0);
            LatestCoat less = Due.on("street 1 100 0;thing 2 7;thing 1 2;painter 1 0;painter 2 0;coat 0 0;coat 2 1");
            t.is("more by both things, not by one cell alone", less.worth(1, 0, 12), 7);
            t.is("by the other's", less.worth(2, 0, 12), 2);
        });
        t.test(30, "below 0, if less", () -> {
            LatestCoat x = Due.on("street 9 50 9;thing 1 7;painter 1 0;coat 0 0;suit");
            Due.hours(x, 11);
            t.is("in suit", x.worth(0, 0, 1), -7);
            t.is("once", x.worth(0, 0, 100), -7);
        });
        t.test(30, "WORTH; -100000 without these (a CELL of a THING that is not bare).", () -> {
            LatestCoat x = Due.on("street 1 50 0;thing 1 7;thing 1 7;thing 1 7;painter 1 0;coat 0 0;bare 1");
            x.vote(2);
            for (int bad : new int[] {-1, 3, 16, MIN, MAX}) {
                t.is("cell " + bad, x.worth(bad, 0, 12), -100000);
            }
            for (int bad : new int[] {-1, 1, 4, MIN, MAX}) {
                t.is("painter " + bad, x.worth(0, bad, 12), -100000);
            }
            for (int bad : new int[] {-1, 0, 101, MIN, MAX}) {
                t.is("n " + bad, x.worth(0, 0, bad), -100000);
            }
            t.is("told bare", x.worth(1, 0, 12), -100000);
            t.is("voted bare", x.worth(2, 0, 12), -100000);
            t.is("no street", new LatestCoat().worth(0, 0, 1), -100000);
        });
    }

    private static void seed(Sentences t) {
        t.test(31, "x becomes a number: what it was", () -> {
            LatestCoat x = new LatestCoat();
            t.is("0 at first", x.seed(7), 0);
            t.is("7", x.seed(MAX), 7);
            t.is("the most", x.count(14), MAX);
            t.is("the most", x.seed(0), MAX);
            t.is("0", x.count(14), 0);
        });
        t.test(31, "NONE, and nothing happens, below 0.", () -> {
            LatestCoat x = new LatestCoat();
            x.seed(9);
            t.is("-1", x.seed(-1), -1);
            t.is("least", x.seed(MIN), -1);
            t.is("as it was", x.count(14), 9);
        });
        t.test(31, "DRAWS: x (0 to 2147483647; 0 at first)", () -> {
            t.is("at first", new LatestCoat().count(14), 0);
            LatestCoat x = new LatestCoat();
            x.seed(2147483647);
            t.is("the most", x.count(14), 2147483647);
        });
    }

    /** What x becomes, told with numbers that can't overflow: 1103515245 is 16838 * 65536 + 20077. */
    private static long next(long x) {
        long low = x * 20077 % 2147483648L;
        long high = x * 16838 % 32768 * 65536 % 2147483648L;
        return (low + high + 12345) % 2147483648L;
    }

    private static final int[] SEEDS = {0, 1, 2, 12345, 65535, 65536, 1406932606, 1073741823, 1073741824, MAX - 1, MAX};

    private static void draws(Sentences t) {
        t.test(32, "becomes x * 1103515245 + 12345, of 2147483648 the rest; a DRAW is x / 65536", () -> {
            // of 16 cells none but one can be painted, so an answer of 1 tells the cell that was drawn
            for (int alone = 0; alone < 4; alone++) {
                StringBuilder text = new StringBuilder("street 1 50 0;thing 1 0;thing 1 0;thing 1 0;thing 1 0;painter 1 0");
                for (int thing = 0; thing < 4; thing++) {
                    text.append(thing == alone ? "" : ";bare " + thing);
                }
                LatestCoat x = Due.on(text.toString());
                for (int seed : SEEDS) {
                    x.seed(seed);
                    long cell = next(next(seed)) / 65536 % 4;
                    t.is("x " + seed + ", cell " + alone, x.years(1, 1, 0), cell == alone ? 1 : 0);
                }
            }
        });
        t.test(32, "in each a DRAW mod PAINTERS, a DRAW mod CELLS: that one PAINTS that CELL, if they can", () -> {
            for (int able = 0; able < 3; able++) {
                StringBuilder text = new StringBuilder("street 1 50 1;thing 2 0;thing 3 0;bare 0");
                for (int painter = 0; painter < 3; painter++) {
                    text.append(";painter 1 ").append(painter == able ? 1 : 0);
                }
                LatestCoat x = Due.on(text.toString());
                for (int seed : SEEDS) {
                    x.seed(seed);
                    long first = next(seed);
                    boolean can = first / 65536 % 3 == able && next(first) / 65536 % 5 >= 2;
                    t.is("x " + seed + ", painter " + able, x.years(1, 1, 0), can ? 1 : 0);
                }
            }
            LatestCoat y = Due.on("street 1 50 9;thing 1 0;painter 1 26");
            t.is("as long as the purse has COST", y.years(1, 100, 0), 2);
        });
        t.test(32, "(without PAINTERS or CELLS nothing is drawn; x as it was)", () -> {
            for (String text : new String[] {"street 1 50 0", "street 1 50 0;thing 6 20", "street 1 50 0;painter 1 9"}) {
                LatestCoat x = Due.on(text);
                x.seed(77);
                t.is("coats", x.years(10, 100, 0), 0);
                t.is("rent", x.years(10, 100, 1), 0);
                t.is("x", x.count(14), 77);
            }
            LatestCoat y = Due.on("street 1 50 0;thing 1 0;painter 1 0");
            y.seed(77);
            y.years(10, 100, 0);
            t.is("x as it was, where it is drawn", y.count(14), 77);
        });
    }

    private static void years(Sentences t) {
        t.test(32, "YEARS m times (1 to 10) n HOURS (1 to 100) from now on (no RULE is asked)", () -> {
            LatestCoat x = Due.on("street 1 50 0;thing 1 7;painter 1 0");
            Due.rule(x, "paint 1");
            x.force(0);
            t.is("1 and 1", x.years(1, 1, 0), 1);
            t.is("10 and 100", x.years(10, 100, 0), 1000);
            t.is("0 times", x.years(0, 1, 0), -1);
            t.is("11 times", x.years(11, 1, 0), -1);
            t.is("0 hours", x.years(1, 0, 0), -1);
            t.is("101 hours", x.years(1, 101, 0), -1);
            t.is("rents from 0 on", x.years(1, 11, 1), 0);
            x.force(-1);
            Due.hours(x, 6);
            t.is("from now on, 5 hours", x.years(1, 5, 1), 0);
            t.is("from now on, 6 hours", x.years(1, 6, 1), 7);
            LatestCoat purse = Due.on("street 1 50 1;thing 1 0;painter 1 3");
            t.is("each time from now on", purse.years(10, 100, 0), 30);
        });
        t.test(32, "YEARS what 0: coats, 1: RENT.", () -> {
            LatestCoat x = Due.on("street 1 50 0;thing 1 7;painter 1 0");
            t.is("coats", x.years(2, 36, 0), 72);
            t.is("rent", x.years(2, 36, 1), 28);
        });
        t.test(32, "NONE without these, or a STREET.", () -> {
            LatestCoat x = Due.on("street 1 50 0;thing 1 7;painter 1 0");
            for (int bad : new int[] {-1, 0, 11, MIN, MAX}) {
                t.is("m " + bad, x.years(bad, 1, 0), -1);
            }
            for (int bad : new int[] {-1, 0, 101, MIN, MAX}) {
                t.is("n " + bad, x.years(1, bad, 0), -1);
            }
            for (int bad : new int[] {-1, 2, MIN, MAX}) {
                t.is("what " + bad, x.years(1, 1, bad), -1);
            }
            t.is("no street", new LatestCoat().years(1, 1, 0), -1);
            t.is("no painters, but m", Due.on("street 1 50 0").years(11, 1, 0), -1);
        });
    }

    private static void yearsOfHours(Sentences t) {
        t.test(32, "then rain and all as ever: coats painted; RENT got by all, all together", () -> {
            LatestCoat rained = Due.on("street 1 50 0;thing 1 7;painter 1 0;rain 0 99");
            t.is("washed off, but painted", rained.years(1, 100, 0), 100);
            t.is("so no rent", rained.years(1, 100, 1), 0);
            LatestCoat all = Due.on("street 1 50 9;thing 1 3;thing 1 5;painter 1 0;painter 2 0;coat 0 0;coat 1 1");
            t.is("of both, twice a time", all.years(3, 36, 1), 3 * 2 * 8);
            t.is("nobody can paint", all.years(3, 1, 0), 0);
            LatestCoat paid = Due.on("street 1 50 7;thing 1 7;painter 1 0;coat 0 0");
            t.is("a rent pays for a coat", paid.years(1, 13, 0), 1);
            t.is("and one behind it is got too", paid.years(1, 36, 1), 14);
            // x goes on from one time to the next: the first two draws, then the third and the fourth
            for (int alone = 0; alone < 2; alone++) {
                LatestCoat x = Due.on("street 1 50 0;thing 1 0;thing 1 0;painter 1 0;bare " + (1 - alone));
                for (int seed : SEEDS) {
                    x.seed(seed);
                    long second = next(next(seed));
                    long fourth = next(next(second));
                    int due = (second / 65536 % 2 == alone ? 1 : 0) + (fourth / 65536 % 2 == alone ? 1 : 0);
                    t.is("two times, x " + seed, x.years(2, 1, 0), due);
                    t.is("two hours, x " + seed, x.years(1, 2, 0), due);
                }
            }
        });
    }

    private static void count(Sentences t) {
        t.test(33, "What 0: DRY, 1: PART, 2: COST, 3: THINGS, 4: CELLS, 5: PAINTERS", () -> {
            LatestCoat x = Due.on("street 9 100 8;thing 6 0;thing 5 0;painter 1 0;painter 1 0;painter 1 0");
            int[] want = {9, 100, 8, 2, 11, 3};
            for (int what = 0; what < want.length; what++) {
                t.is("what " + what, x.count(what), want[what]);
                t.is("no street, what " + what, new LatestCoat().count(what), 0);
            }
        });
        t.test(33, "6: 1 if there is SUIT, else 0", () -> {
            t.is("suit", Due.on("street 1 50 0;suit").count(6), 1);
            t.is("none", Due.on("street 1 50 0").count(6), 0);
        });
        t.test(33, "7: RULES, 8: the RULE IN FORCE (NONE)", () -> {
            LatestCoat x = new LatestCoat();
            for (int k = 0; k < 6; k++) {
                Due.rule(x, "paint 1");
                t.is("rules", x.count(7), k + 1);
            }
            t.is("none in force", x.count(8), -1);
            x.force(5);
            t.is("in force", x.count(8), 5);
        });
        t.test(33, "9: HOUR", () -> {
            LatestCoat x = Due.on("street 1 50 0");
            t.is("0", x.count(9), 0);
            Due.hours(x, 3);
            t.is("3", x.count(9), 3);
        });
        t.test(33, "10: CELLS whose top coat is wet, as bits", () -> {
            LatestCoat x = Due.on("street 2 50 0;thing 6 0;thing 6 0;thing 4 0;painter 1 0;coat 1 0");
            t.is("none", x.count(10), 0);
            x.paint(0, 0);
            x.hour();
            x.paint(15, 0);
            t.is("the first and the last", x.count(10), 1 + 32768);
            x.hour();
            t.is("the last", x.count(10), 32768);
            x.hour();
            t.is("none", x.count(10), 0);
            t.is("no coats, where they are long wet", Due.on("street 9 50 0;thing 6 0").count(10), 0);
        });
        t.test(33, "11: THINGS that are bare, as bits", () -> {
            LatestCoat x = Due.on("street 2 50 0;thing 1 0;thing 1 0;thing 1 0;thing 1 0;bare 3");
            t.is("told", x.count(11), 8);
            x.vote(0);
            t.is("voted", x.count(11), 9);
        });
        t.test(33, "12: LOGS, 13: ACTS that can be UNDONE", () -> {
            LatestCoat x = Due.on("street 2 50 0;thing 1 0");
            for (int k = 1; k <= 22; k++) {
                x.log(0, 0, -1);
                x.hour();
                t.is("logs", x.count(12), Math.min(k, 10));
                t.is("acts", x.count(13), Math.min(k, 20));
            }
            x.undo();
            t.is("one less", x.count(13), 19);
        });
        t.test(33, "14: x, 15: bytes of the TAPE", () -> {
            LatestCoat x = new LatestCoat();
            t.is("x", x.count(14), 0);
            t.is("tape", x.count(15), 0);
            x.seed(MAX);
            Due.tape(x, " ".repeat(400));
            t.is("x", x.count(14), MAX);
            t.is("tape", x.count(15), 400);
        });
        t.test(33, "NONE for others.", () -> {
            LatestCoat x = Due.on("street 2 50 0;thing 1 0");
            for (int bad : new int[] {-1, 16, 17, MIN, MAX}) {
                t.is("what " + bad, x.count(bad), -1);
            }
        });
    }

    private static void images(Sentences t) {
        t.test(34, "IMAGES 0 to 3", () -> {
            LatestCoat x = Due.on("street 1 50 0");
            for (int k = 0; k < 4; k++) {
                t.is("image", x.image(k), k);
                x.hour();
            }
            for (int k = 3; k >= 0; k--) {
                t.is("back", x.back(k), k);
            }
        });
        t.test(34, "all but the RULES and the TAPE, as it is (the RULE IN FORCE, what can be UNDONE, too)", () -> {
            LatestCoat x = Due.on("street 2 50 1;thing 2 5;thing 1 0;painter 1 30;painter 2 30;coat 0 0;rain 9 9;suit");
            Due.rule(x, "paint 1");
            x.force(0);
            x.seed(5);
            x.log(1, 0, -1);
            x.log(2, 1, -1);
            for (int k = 0; k < 21; k++) {
                x.paint(k % 3, k % 2);
            }
            x.hour();
            x.vote(1);
            String before = Due.seen(x);
            int fit = x.ruled(0);
            x.image(2);
            x.seed(6);
            x.log(-1, 0, 0);
            x.force(-1);
            Due.street(x, "street 1 1 0;thing 1 1");
            x.hour();
            t.is("back", x.back(2), 1);
            t.same("all", before, Due.seen(x));
            x.undo();
            Due.rule(x, "paint 2");
            x.feed(0, 0, 0, 0, 0);
            t.is("back again", x.back(2), 1);
            t.is("rules stay", x.count(7), 2);
            t.is("the tape stays", x.count(15), 20);
            t.is("the logs are the same", x.ruled(0), fit + 1);
            t.is("the rains too", x.rain(9), 1);
            t.is("undo the vote", x.undo(), 19);
            t.is("not bare", x.thing(1, 4), 0);
            t.is("undo the hour", x.undo(), 18);
            t.is("HOUR", x.count(9), 0);
            for (int k = 17; k >= 0; k--) {
                t.is("undo", x.undo(), k);
            }
            t.is("no more", x.undo(), -2);
        });
        t.test(34, "what can be UNDONE, too", () -> {
            LatestCoat x = Due.on("street 1 50 1;thing 2 0;painter 1 99");
            for (int k = 0; k < 5; k++) {
                x.paint(0, 0);
            }
            x.image(0);
            for (int k = 0; k < 30; k++) {
                x.paint(1, 0);
            }
            x.back(0);
            for (int k = 4; k >= 0; k--) {
                t.is("how many more", x.undo(), k);
                t.is("the purse then", x.painter(0, 1), 99 - k);
                t.is("the coats then", x.cell(0, 1), k);
                t.is("the other cell", x.cell(1, 1), 0);
            }
        });
        t.test(34, "all but the RULES and the TAPE", () -> {
            LatestCoat x = told();
            x.log(2, 0, 1);
            x.image(0);
            x.log(-1, 0, 0);
            x.log(1, 1, 0);
            t.is("another log", x.ruled(0), 0);
            x.back(0);
            t.is("the log that was", x.ruled(0), 1);
            t.is("by rule 0", x.ruled(1), 0);
        });
        t.test(34, "An IMAGE is made: the HOUR", () -> {
            LatestCoat x = new LatestCoat();
            t.is("without a street", x.image(0), 0);
            Due.street(x, "street 1 50 0");
            Due.hours(x, 7);
            t.is("7", x.image(3), 7);
            x.hour();
            t.is("in place of another", x.image(3), 8);
            x.hour();
            t.is("the later one", x.back(3), 8);
        });
        t.test(34, "NONE without it.", () -> {
            LatestCoat x = Due.on("street 1 50 0");
            for (int bad : new int[] {-1, 4, MIN, MAX}) {
                t.is("k " + bad, x.image(bad), -1);
            }
            for (int k = 0; k < 4; k++) {
                t.is("none was made", x.back(k), -1);
            }
        });
    }

    private static void back(Sentences t) {
        t.test(35, "gone back to, it is as it was (these stay)", () -> {
            LatestCoat x = new LatestCoat();
            x.image(1);
            Due.street(x, "street 1 50 0;thing 1 0;painter 1 0");
            Due.rule(x, "paint 1");
            x.force(0);
            x.hour();
            x.image(0);
            x.feed(0, 0, 0, 0, 0);
            t.is("to no street", x.back(1), 0);
            t.is("none", x.hour(), -1);
            t.is("none in force", x.count(8), -1);
            t.is("no acts", x.count(13), 0);
            t.is("the rule stays", x.count(7), 1);
            t.is("the tape stays", x.count(15), 20);
            t.is("to the street", x.back(0), 1);
            t.is("its coat", x.cell(0, 1), 1);
            t.is("its rule is in force", x.hour(), 1);
            t.is("what happens then does not change the image", x.back(0), 1);
            t.is("one coat again", x.cell(0, 1), 1);
            x.undo();
            t.is("nor what is undone", x.back(0), 1);
            t.is("one act again", x.count(13), 1);
        });
        t.test(35, "All is as in an IMAGE: the HOUR", () -> {
            LatestCoat x = Due.on("street 1 50 0");
            x.image(0);
            Due.hours(x, 5);
            x.image(1);
            t.is("0", x.back(0), 0);
            t.is("HOUR", x.count(9), 0);
            t.is("5", x.back(1), 5);
            t.is("HOUR", x.count(9), 5);
        });
        t.test(35, "NONE, and nothing happens, if it was never made, or without it.", () -> {
            LatestCoat x = Due.on("street 1 50 0;thing 1 0;painter 1 0");
            x.image(2);
            x.hour();
            x.paint(0, 0);
            String before = Due.seen(x);
            for (int never : new int[] {0, 1, 3}) {
                t.is("never made " + never, x.back(never), -1);
            }
            for (int bad : new int[] {-1, 4, MIN, MAX}) {
                t.is("k " + bad, x.back(bad), -1);
            }
            t.same("nothing happens", before, Due.seen(x));
        });
    }
}
