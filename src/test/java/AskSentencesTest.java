/** The document's sentences on what can be asked of the street as it is and goes on: promises 17 to 26. */
public final class AskSentencesTest {
    private static final int MIN = Sentences.MIN;
    private static final int MAX = Sentences.MAX;

    private AskSentencesTest() {
    }

    public static void main(String[] args) {
        Sentences t = new Sentences(true);
        all(t);
        t.close("AskSentencesTest");
    }

    static void all(Sentences t) {
        asking(t);
        ahead(t);
        rents(t);
        least(t);
        leastSets(t);
        fewest(t);
        fewestRows(t);
        when(t);
        game(t);
        gameEnds(t);
        share(t);
        then(t);
        byPart(t);
        one(t);
    }

    private static LatestCoat ruled(String street, String rule) {
        LatestCoat x = Due.on(street);
        if (Due.rule(x, rule) != 0) {
            throw new IllegalStateException("the test's rule has a fault: " + rule);
        }
        x.force(0);
        return x;
    }

    private static void askAll(LatestCoat x) {
        for (int what = 0; what < 3; what++) {
            x.ahead(0, 40, what);
        }
        x.rents(0, 40);
        x.least(1, 0, 9, 1);
        x.fewest(1, 0, 0);
        x.when();
        x.game(0, 1, 0, 4, 0);
        x.share(0, 0, 0);
        x.then(0, 1);
        x.byPart(0, 50);
        x.one();
        x.ruled(0);
        x.look(30, 1);
        x.worth(0, 0, 40);
        x.years(2, 40, 0);
        x.rain(0);
    }

    private static void asking(Sentences t) {
        t.test(17, "By what is asked nothing changes", () -> {
            LatestCoat x = ruled("street 2 50 1;thing 2 9;thing 1 5;painter 1 20;painter 2 20;coat 0 0;coat 2 1;rain 3 3;suit", "paint 4-coats");
            x.log(2, 1, 1);
            x.seed(5);
            x.hour();
            x.paint(1, 1);
            x.feed(1, 2, 3, 4, 5);
            String before = Due.seen(x);
            askAll(x);
            t.same("all", before, Due.seen(x));
            t.is("the tape", x.count(15), 20);
            t.is("the act that is undone", x.undo(), 1);
            t.is("is the last one", x.cell(1, 1), 1);
        });
        t.test(17, "HOURS go on by the RULE IN FORCE, if not said otherwise", () -> {
            LatestCoat x = ruled("street 1 50 1;thing 1 5;painter 1 9;painter 2 9;coat 0 1", "paint 1 if painter=0 and hour=3");
            Due.rule(x, "paint 1 if painter=0 and hour=11");
            t.is("rule 0: ahead", x.ahead(0, 12, 1), 13);
            t.is("rule 0: rents", x.rents(1, 12), 0);
            t.is("rule 0: a purse ahead", x.ahead(1, 12, 1), 9);
            x.force(1);
            t.is("rule 1: whose the cell is ahead of it", x.ahead(0, 11, 2), 1);
            t.is("rule 1: rents", x.rents(0, 12), 5);
            x.force(-1);
            t.is("none: ahead", x.ahead(0, 12, 0), 1);
            t.is("none: rents", x.rents(1, 12), 5);
        });
    }

    private static void ahead(Sentences t) {
        String street = "street 2 50 1;thing 1 3;thing 1 4;painter 1 3;painter 2 2;coat 0 1;rain 5 5";
        String rule = "paint 1 if painter=0 and cell=1 and [hour=1 or hour=5 or hour=98]";
        t.test(17, "AHEAD n HOURS (0 to 100)", () -> {
            LatestCoat x = ruled(street, rule);
            t.is("0 is now", x.ahead(0, 0, 1), 3);
            t.is("1", x.ahead(0, 1, 1), 3);
            t.is("2", x.ahead(0, 2, 1), 2);
            t.is("98, with the rents of 12, 36, 60 and 84", x.ahead(0, 98, 1), 3 - 2 + 4 * 4);
            t.is("99", x.ahead(0, 99, 1), 3 - 3 + 4 * 4);
            t.is("100", x.ahead(0, 100, 1), 3 - 3 + 4 * 4);
            t.is("101", x.ahead(0, 101, 1), -2);
            t.is("-1", x.ahead(0, -1, 1), -2);
            x.hour();
            t.is("from now on", x.ahead(0, 1, 1), 2);
        });
        t.test(17, "who owns a THING; a PURSE; who owns a CELL", () -> {
            LatestCoat x = ruled(street, rule);
            t.is("thing 0", x.ahead(0, 100, 0), 1);
            t.is("thing 1", x.ahead(1, 100, 0), 0);
            t.is("purse 0", x.ahead(0, 5, 1), 2);
            t.is("purse 1", x.ahead(1, 100, 1), 2 + 4 * 3);
            t.is("cell 0", x.ahead(0, 100, 2), 1);
            t.is("cell 1, wet", x.ahead(1, 2, 2), -1);
            t.is("cell 1, dry", x.ahead(1, 3, 2), 0);
        });
        t.test(17, "AHEAD what 0: who owns the THING, 1: PURSE of the PAINTER, 2: who owns the CELL (of that number; NONE: nobody)", () -> {
            LatestCoat x = ruled(street, rule);
            t.is("thing 1 is nobody's yet", x.ahead(1, 2, 0), -1);
            t.is("thing 1", x.ahead(1, 3, 0), 0);
            t.is("painter 1", x.ahead(1, 12, 1), 5);
            t.is("cell 1 is nobody's", x.ahead(1, 0, 2), -1);
            t.is("cell 1", x.ahead(1, 50, 2), 0);
            LatestCoat wide = Due.on("street 1 50 0;thing 2 0;thing 3 0;painter 1 0;painter 2 0;coat 0 1;coat 1 1;coat 2 0;coat 3 0");
            t.is("thing 1, not cell 1", wide.ahead(1, 5, 0), 0);
            t.is("cell 1, not thing 1", wide.ahead(1, 5, 2), 1);
        });
        t.test(17, "-2 without these.", () -> {
            LatestCoat x = ruled("street 2 50 1;thing 2 3;painter 1 3;painter 2 3;painter 3 3", rule);
            for (int bad : new int[] {-1, MIN, MAX}) {
                for (int what = 0; what < 3; what++) {
                    t.is("number " + bad, x.ahead(bad, 1, what), -2);
                }
                t.is("n " + bad, x.ahead(0, bad, 0), -2);
                t.is("what " + bad, x.ahead(0, 1, bad), -2);
            }
            t.is("what 3", x.ahead(0, 1, 3), -2);
            t.is("no thing 1", x.ahead(1, 1, 0), -2);
            t.is("no cell 2", x.ahead(2, 1, 2), -2);
            t.is("no painter 3", x.ahead(3, 1, 1), -2);
            t.is("painter 2", x.ahead(2, 1, 1), 3);
            for (int what = 0; what < 3; what++) {
                t.is("no street", new LatestCoat().ahead(0, 0, what), -2);
            }
        });
    }

    private static void rents(Sentences t) {
        String street = "street 2 50 1;thing 1 3;thing 1 4;painter 1 0;painter 2 0;coat 0 1;coat 1 1";
        t.test(18, "RENTS of a PAINTER in n HOURS (1 to 100): what they get", () -> {
            LatestCoat x = Due.on(street);
            t.is("11", x.rents(1, 11), 0);
            t.is("12", x.rents(1, 12), 7);
            t.is("35", x.rents(1, 35), 7);
            t.is("36", x.rents(1, 36), 14);
            t.is("100", x.rents(1, 100), 28);
            t.is("he who owns nothing", x.rents(0, 100), 0);
            t.is("1", x.rents(1, 1), 0);
            Due.hours(x, 11);
            t.is("1, from 11 on", x.rents(1, 1), 7);
            x.hour();
            t.is("what was got does not count", x.rents(1, 1), 0);
            t.is("100, from 12 on", x.rents(1, 100), 28);
        });
        t.test(18, "RENTS; NONE without these.", () -> {
            LatestCoat x = Due.on(street);
            for (int bad : new int[] {-1, 2, 4, MIN, MAX}) {
                t.is("painter " + bad, x.rents(bad, 12), -1);
            }
            for (int bad : new int[] {0, 101, -1, MIN, MAX}) {
                t.is("n " + bad, x.rents(1, bad), -1);
            }
            t.is("no street", new LatestCoat().rents(0, 1), -1);
        });
    }

    private static void least(Sentences t) {
        t.test(19, "LEAST of a PAINTER for a THING that is not bare n HOURS on (0 to 60; no RULE is asked)", () -> {
            LatestCoat x = ruled("street 2 50 9;thing 1 0;thing 1 0;painter 1 0;painter 2 99;coat 0 0", "paint 9 if painter=1");
            t.is("0, his", x.least(0, 0, 0, 0), 0);
            t.is("0, not his", x.least(1, 0, 0, 0), -2);
            t.is("1, wet", x.least(1, 0, 1, 0), -2);
            t.is("2, dry", x.least(1, 0, 2, 0), 1);
            t.is("60, no rule is asked", x.least(0, 0, 60, 0), 0);
            t.is("61", x.least(0, 0, 61, 0), -1);
            t.is("-1", x.least(0, 0, -1, 0), -1);
            x.vote(1);
            t.is("bare", x.least(0, 1, 60, 0), -1);
            LatestCoat rained = Due.on("street 9 50 0;thing 1 0;painter 1 0;painter 2 0;coat 0 0;rain 8 8");
            t.is("60 with rain", rained.least(1, 0, 60, 0), -2);
            rained.hour();
            t.is("it still rains on it", rained.least(1, 0, 60, 0), -2);
            LatestCoat suit = Due.on("street 2 50 0;thing 1 0;painter 1 0;painter 2 0;coat 0 0;rain 1 1;suit");
            suit.paint(0, 1);
            t.is("1 hour on it has not rained yet", suit.least(0, 0, 1, 0), -2);
            t.is("2 hours on it has", suit.least(0, 0, 2, 0), 0);
            LatestCoat dry = Due.on("street 9 50 0;thing 1 0;painter 1 0;painter 2 0;coat 0 0;rain 9 9");
            t.is("the rain comes when it is dry", dry.least(1, 0, 60, 0), 1);
        });
        t.test(19, "the fewest CELLS of it to paint now, each once (PURSE not asked), so that it is theirs then", () -> {
            LatestCoat x = Due.on("street 1 100 9;thing 1 0;thing 6 0;painter 1 0;painter 2 0");
            t.is("all six, by an empty purse", x.least(0, 1, 1, 0), 6);
            t.is("all six", x.least(0, 1, 1, 1), 63);
            LatestCoat y = Due.on("street 1 1 0;thing 3 0;painter 1 0;painter 2 0;coat 2 1");
            t.is("the other's one", y.least(0, 0, 1, 0), 1);
            t.is("is less than two of the others", y.least(0, 0, 1, 1), 4);
            t.is("his already", y.least(1, 0, 60, 0), 0);
            t.is("so none", y.least(1, 0, 60, 1), 0);
            LatestCoat suit = Due.on("street 9 50 0;thing 2 0;painter 1 0;painter 2 0;coat 0 0;coat 1 1;suit");
            t.is("in suit a wet coat takes the other's at once", suit.least(0, 0, 0, 1), 2);
            LatestCoat buried = Due.on("street 9 50 0;thing 1 0;painter 1 0;painter 2 0;coat 0 0");
            for (int k = 0; k < 4; k++) {
                buried.paint(0, 1);
            }
            t.is("his dry one is the fifth", buried.least(0, 0, 0, 0), 0);
            t.is("later it is the other's, unless painted now", buried.least(0, 0, 9, 0), 1);
        });
    }

    private static void leastSets(Sentences t) {
        t.test(19, "of several sets the least as bits (the THING's first CELL 1)", () -> {
            LatestCoat x = Due.on("street 1 50 0;thing 3 0;thing 5 0;painter 1 0;painter 2 0;coat 3 1;coat 5 1;coat 6 0");
            // cells 3 to 7: his is the fourth; of the others' first and third one, and one more
            t.is("how many", x.least(0, 1, 1, 0), 2);
            t.is("the first and the second", x.least(0, 1, 1, 1), 3);
            LatestCoat y = Due.on("street 1 60 0;thing 3 0;painter 1 0;coat 0 0");
            t.is("the second, not the third", y.least(0, 0, 1, 1), 2);
            LatestCoat z = Due.on("street 1 60 0;thing 3 0;painter 1 0;coat 1 0;coat 0 0;coat 2 0");
            t.is("none", z.least(0, 0, 1, 1), 0);
        });
        t.test(19, "LEAST what 0: how many, 1: the set", () -> {
            LatestCoat x = Due.on("street 1 100 0;thing 6 0;painter 1 0;coat 0 0;coat 1 0;coat 2 0;coat 3 0");
            t.is("how many", x.least(0, 0, 1, 0), 2);
            t.is("the set", x.least(0, 0, 1, 1), 16 + 32);
        });
        t.test(19, "-2: it can't be", () -> {
            LatestCoat x = Due.on("street 2 50 0;thing 1 0;painter 1 0");
            t.is("how many", x.least(0, 0, 1, 0), -2);
            t.is("the set", x.least(0, 0, 1, 1), -2);
        });
        t.test(19, "NONE without these.", () -> {
            LatestCoat x = Due.on("street 1 50 0;thing 1 0;thing 1 0;painter 1 0;bare 1");
            for (int bad : new int[] {-1, 2, 4, MIN, MAX}) {
                t.is("painter " + bad, x.least(bad, 0, 1, 0), -1);
                t.is("thing " + bad, x.least(0, bad, 1, 0), -1);
                t.is("what " + bad, x.least(0, 0, 1, bad), -1);
            }
            for (int bad : new int[] {-1, 61, MIN, MAX}) {
                t.is("n " + bad, x.least(0, 0, bad, 0), -1);
            }
            t.is("told bare", x.least(0, 1, 1, 0), -1);
            t.is("no street", new LatestCoat().least(0, 0, 0, 0), -1);
        });
    }

    private static void fewest(Sentences t) {
        t.test(20, "FEWEST scrapes by which a THING is a PAINTER's now: how many", () -> {
            LatestCoat x = Due.on("street 2 50 0;thing 1 0;thing 2 0;painter 1 0;painter 2 0;coat 1 0;coat 1 1;coat 1 1;coat 2 1");
            t.is("his", x.fewest(1, 1, 0), 0);
            // the second cell's coat goes, and two of the first cell's
            t.is("three", x.fewest(0, 1, 0), 3);
            x.paint(1, 0);
            x.paint(2, 0);
            t.is("with wet ones above", x.fewest(0, 1, 0), 5);
            t.is("his under wet ones", x.fewest(1, 1, 0), 0);
            LatestCoat suit = Due.on("street 2 50 0;thing 1 0;painter 1 0;painter 2 0;coat 0 0;suit");
            suit.paint(0, 1);
            t.is("in suit the wet one goes", suit.fewest(0, 0, 0), 1);
            StringBuilder full = new StringBuilder("street 1 1 0;thing 6 0;painter 0 0;painter 0 0;coat 5 0");
            for (int k = 0; k < 29; k++) {
                full.append(";coat ").append(k < 25 ? k % 5 : 5).append(" 1");
            }
            LatestCoat most = Due.on(full.toString());
            t.is("all but the lowest of the last", most.fewest(0, 0, 0), 29);
            t.is("four of the last", most.fewest(0, 0, 6), 4);
        });
        t.test(20, "-2: it can't be", () -> {
            LatestCoat x = Due.on("street 1 50 0;thing 1 0;thing 1 0;painter 1 0;painter 2 0;coat 0 0;coat 1 0");
            for (int what = 0; what < 2; what++) {
                t.is("no coat of his", x.fewest(1, 0, what), -2);
            }
            x.scrape(0);
            t.is("no coat at all", x.fewest(0, 0, 0), -2);
            x.vote(1);
            t.is("bare", x.fewest(0, 1, 0), -2);
            LatestCoat wet = Due.on("street 2 50 0;thing 1 0;painter 1 0");
            wet.paint(0, 0);
            t.is("a wet one is not his", wet.fewest(0, 0, 0), -2);
            LatestCoat part = Due.on("street 1 51 0;thing 2 0;painter 1 0;coat 0 0");
            t.is("not PART", part.fewest(0, 0, 0), -2);
        });
        t.test(20, "NONE without these.", () -> {
            LatestCoat x = Due.on("street 1 50 0;thing 1 0;painter 1 0;coat 0 0");
            for (int bad : new int[] {-1, 1, 4, MIN, MAX}) {
                t.is("painter " + bad, x.fewest(bad, 0, 0), -1);
                t.is("thing " + bad, x.fewest(0, bad, 0), -1);
            }
            for (int bad : new int[] {-1, 7, MIN, MAX}) {
                t.is("what " + bad, x.fewest(0, 0, bad), -1);
            }
            t.is("no street", new LatestCoat().fewest(0, 0, 0), -1);
        });
    }

    private static void fewestRows(Sentences t) {
        t.test(20, "of several ways the row of how many from each CELL that is least (the first CELL first)", () -> {
            LatestCoat x = Due.on("street 1 50 0;thing 3 0;painter 1 0;painter 2 0;coat 0 0;coat 0 1;coat 1 0;coat 1 1;coat 2 0");
            int[] want = {1, 0, 1, 0};
            for (int what = 0; what < want.length; what++) {
                t.is("what " + what, x.fewest(0, 0, what), want[what]);
            }
            LatestCoat y = Due.on("street 1 60 0;thing 3 0;painter 1 0;painter 2 0;coat 2 0;coat 2 1;coat 1 0;coat 1 1;coat 1 1;coat 0 0;coat 0 1");
            int[] row = {2, 1, 0, 1};
            for (int what = 0; what < row.length; what++) {
                t.is("what " + what, y.fewest(0, 0, what), row[what]);
            }
            LatestCoat z = Due.on("street 1 60 0;thing 3 0;painter 1 0;painter 2 0;coat 0 0;coat 1 0;coat 1 1;coat 1 1;coat 2 0;coat 2 1;coat 2 1;coat 0 1");
            int[] three = {3, 1, 0, 2};
            for (int what = 0; what < three.length; what++) {
                t.is("what " + what, z.fewest(0, 0, what), three[what]);
            }
        });
        t.test(20, "FEWEST what 0: how many, 1 to 6: from the CELL less 1 (-2: so many there are not)", () -> {
            LatestCoat x = Due.on("street 1 100 0;thing 1 0;thing 6 0;painter 1 0;painter 2 0;coat 0 0"
                + ";coat 1 0;coat 2 0;coat 3 0;coat 4 0;coat 5 0;coat 6 0;coat 6 1;coat 6 1;coat 1 1");
            int[] want = {3, 1, 0, 0, 0, 0, 2};
            for (int what = 0; what < want.length; what++) {
                t.is("what " + what, x.fewest(0, 1, what), want[what]);
            }
            t.is("the only cell", x.fewest(0, 0, 1), 0);
            for (int what = 2; what <= 6; what++) {
                t.is("no cell " + (what - 1), x.fewest(0, 0, what), -2);
            }
        });
    }

    private static void when(Sentences t) {
        t.test(21, "WHEN: the first HOUR from now on (60 are looked at) in which to paint so that no RAIN washes it off.", () -> {
            t.is("now", Due.on("street 9 50 0;rain 9 9").when(), 0);
            t.is("not now", Due.on("street 9 50 0;rain 8 8").when(), 9);
            t.is("between two rains", Due.on("street 3 50 0;rain 0 0;rain 3 3;rain 7 7").when(), 4);
            t.is("DRY 1 needs no rain in the hour alone", Due.on("street 1 50 0;rain 0 0;rain 2 2").when(), 1);
            t.is("the last of 60", Due.on("street 1 50 0;rain 0 58").when(), 59);
            LatestCoat x = Due.on("street 1 50 0;rain 0 59");
            t.is("none of 60", x.when(), -2);
            x.hour();
            t.is("from 1 on", x.when(), 60);
            Due.hours(x, 69);
            t.is("from now on", x.when(), 70);
        });
        t.test(21, "WHEN; -2: in none of these", () -> {
            t.is("always rain", Due.on("street 1 50 0;rain 0 199").when(), -2);
            t.is("rain too often", Due.on("street 9 50 0;rain 0 12;rain 20 30;rain 36 44;rain 52 55;rain 59 67").when(), -2);
            t.is("in one", Due.on("street 9 50 0;rain 0 12;rain 20 30;rain 36 44;rain 52 55;rain 68 68").when(), 56);
        });
        t.test(21, "NONE without a STREET.", () -> t.is("no street", new LatestCoat().when(), -1));
    }

    private static void game(Sentences t) {
        String street = "street 2 50 9;thing 1 0;thing 2 0;painter 1 0;painter 2 0;painter 3 0";
        t.test(22, "GAME of two PAINTERS over a THING for n HOURS (1 to 4; no RULE is asked, PURSES not)", () -> {
            LatestCoat x = ruled(street, "paint 1");
            t.is("0", x.game(0, 1, 1, 0, 0), -100);
            t.is("1", x.game(0, 1, 1, 1, 0), 1);
            t.is("2", x.game(0, 1, 1, 2, 0), -1);
            t.is("3", x.game(0, 1, 1, 3, 0), 1);
            t.is("4", x.game(0, 1, 1, 4, 0), -1);
            t.is("5", x.game(0, 1, 1, 5, 0), -100);
            LatestCoat y = ruled("street 1 50 0;thing 2 0;painter 1 9;painter 2 9;painter 3 9", "paint 1 if painter=2");
            t.is("no rule is asked", y.game(0, 1, 0, 1, 0), 1);
        });
        t.test(22, "in each one of them, by turns, the first one first, paints a CELL of it, or nothing, then it rains, if it does", () -> {
            LatestCoat x = Due.on(street + ";coat 1 0;coat 2 1");
            t.is("the first takes the second's", x.game(0, 1, 1, 1, 0), 2);
            t.is("the second takes it back", x.game(0, 1, 1, 2, 0), 0);
            t.is("the other way round", x.game(1, 0, 1, 1, 0), 2);
            t.is("a cell of it alone", x.game(0, 1, 0, 1, 1), 0);
            LatestCoat first = Due.on(street + ";rain 0 0");
            t.is("the first is washed off", first.game(0, 1, 1, 1, 0), 0);
            LatestCoat between = Due.on("street 1 50 0;thing 2 0;painter 1 0;painter 2 0;rain 1 1");
            t.is("the second is", between.game(0, 1, 0, 2, 0), 1);
            t.is("the third is not, the fourth answers", between.game(0, 1, 0, 4, 0), 0);
            LatestCoat none = Due.on("street 1 50 0;thing 1 0;painter 1 0;painter 2 0;coat 0 0");
            t.is("nothing is as good", none.game(0, 1, 0, 1, 0), 1);
            LatestCoat worse = Due.on("street 9 50 0;thing 1 0;painter 1 0;painter 2 0;coat 0 0;rain 2 2");
            for (int k = 0; k < 4; k++) {
                worse.paint(0, 1);
            }
            t.is("nothing is better: a sixth coat would take his dry one", worse.game(0, 1, 0, 1, 0), 1);
            LatestCoat then = Due.on("street 9 50 0;thing 1 0;painter 1 0;painter 2 0;coat 0 0;rain 1 1");
            for (int k = 0; k < 4; k++) {
                then.paint(0, 1);
            }
            t.is("the second takes it by a sixth, and then it rains", then.game(0, 1, 0, 2, 0), 0);
        });
        t.test(22, "how many CELLS of it the first one owns less those the second one does", () -> {
            LatestCoat x = Due.on("street 1 50 0;thing 1 0;thing 6 0;painter 1 0;painter 2 0;painter 3 0;coat 0 1"
                + ";coat 1 1;coat 2 1;coat 3 1;coat 4 1;coat 5 2;coat 6 2");
            t.is("1 less 3", x.game(0, 1, 1, 1, 0), -2);
            t.is("1 less 1", x.game(0, 2, 1, 1, 0), 0);
            t.is("5 less 0", x.game(1, 0, 1, 1, 0), 5);
            t.is("5 less 1", x.game(1, 2, 1, 1, 0), 4);
        });
    }

    private static void gameEnds(Sentences t) {
        t.test(22, "n HOURS and DRY HOURS more on (in which nobody paints), if both do their best", () -> {
            String street = "street 3 50 0;thing 2 0;painter 1 0;painter 2 0;suit";
            t.is("all is dry then, in suit too", Due.on(street).game(0, 1, 0, 1, 0), 1);
            t.is("a rain while it is wet", Due.on(street + ";rain 2 2").game(0, 1, 0, 1, 0), 0);
            t.is("a rain when it is dry", Due.on(street + ";rain 3 3").game(0, 1, 0, 1, 0), 1);
            t.is("a rain behind it all", Due.on(street + ";rain 4 4").game(0, 1, 0, 1, 0), 1);
            t.is("the second's is wet yet", Due.on(street + ";rain 3 3").game(0, 1, 0, 2, 0), 1);
            t.is("the second's is dry", Due.on(street + ";rain 4 4").game(0, 1, 0, 2, 0), -1);
            LatestCoat later = Due.on("street 3 50 0;thing 2 0;painter 1 0;painter 2 0;rain 7 7");
            Due.hours(later, 5);
            t.is("from the hour it is", later.game(0, 1, 0, 1, 0), 0);
        });
        t.test(22, "the first CELL painted first (none ahead of CELLS)", () -> {
            LatestCoat x = Due.on("street 1 50 0;thing 2 0;thing 3 0;painter 1 0;painter 2 0;coat 2 0");
            t.is("of two that are as good", x.game(0, 1, 1, 1, 1), 3);
            t.is("the best is the other's", x.game(1, 0, 1, 1, 1), 2);
            t.is("none, if nothing helps", Due.on("street 2 50 0;thing 2 0;painter 1 0;painter 2 0;rain 1 1").game(0, 1, 0, 1, 1), -1);
            LatestCoat behind = Due.on("street 2 50 0;thing 3 0;thing 2 0;painter 1 0;painter 2 0;rain 1 1");
            t.is("none, in a thing that is not the first", behind.game(0, 1, 1, 1, 1), -1);
            t.is("none, if all is answered alike", Due.on("street 1 50 0;thing 1 0;painter 1 0;painter 2 0").game(0, 1, 0, 2, 1), -1);
        });
        t.test(22, "GAME what 0: how many, 1: the CELL painted first (by its number; NONE: none)", () -> {
            LatestCoat x = Due.on("street 1 50 0;thing 6 0;thing 6 0;thing 4 0;painter 1 0;painter 2 0;coat 15 1;coat 12 0;coat 13 0;coat 14 0");
            t.is("how many", x.game(0, 1, 2, 1, 0), 4);
            t.is("its number", x.game(0, 1, 2, 1, 1), 15);
            t.is("none", x.game(1, 0, 2, 2, 0), -2);
        });
        t.test(22, "-100 without these (unlike PAINTERS, a THING that is not bare).", () -> {
            LatestCoat x = Due.on("street 1 50 0;thing 1 0;thing 1 0;thing 1 0;painter 1 0;painter 1 0;bare 1");
            x.vote(2);
            for (int bad : new int[] {-1, 2, 4, MIN, MAX}) {
                t.is("one " + bad, x.game(bad, 1, 0, 1, 0), -100);
                t.is("other " + bad, x.game(0, bad, 0, 1, 0), -100);
                t.is("what " + bad, x.game(0, 1, 0, 1, bad), -100);
            }
            for (int bad : new int[] {-1, 3, 4, MIN, MAX}) {
                t.is("thing " + bad, x.game(0, 1, bad, 1, 0), -100);
            }
            for (int bad : new int[] {-1, 0, 5, MIN, MAX}) {
                t.is("n " + bad, x.game(0, 1, 0, bad, 0), -100);
            }
            t.is("alike 0", x.game(0, 0, 0, 1, 0), -100);
            t.is("alike 1", x.game(1, 1, 0, 1, 1), -100);
            t.is("of one colour they are unlike", x.game(1, 0, 0, 1, 0), 1);
            t.is("told bare", x.game(0, 1, 1, 1, 0), -100);
            t.is("voted bare", x.game(0, 1, 2, 1, 0), -100);
            t.is("no street", new LatestCoat().game(0, 1, 0, 1, 0), -100);
        });
    }

    private static void share(Sentences t) {
        t.test(23, "SHARE of a PAINTER in a THING: the CELLS they own of all: a fraction in lowest terms", () -> {
            int[][] above = {{0, 1}, {0, 1, 1}, {0, 1, 2, 1}, {0, 1, 1, 3, 1}, {0, 1, 2, 3, 4, 1}, {0, 1, 1, 1, 2, 5, 1}};
            int[][] below = {{1, 1}, {1, 2, 1}, {1, 3, 3, 1}, {1, 4, 2, 4, 1}, {1, 5, 5, 5, 5, 1}, {1, 6, 3, 2, 3, 6, 1}};
            for (int cells = 1; cells <= 6; cells++) {
                LatestCoat x = Due.on("street 1 100 0;thing 1 0;thing " + cells + " 0;painter 1 0;painter 2 0;coat 0 1");
                for (int own = 0; own <= cells; own++) {
                    t.is(own + " of " + cells + " above", x.share(1, 1, 0), above[cells - 1][own]);
                    t.is(own + " of " + cells + " below", x.share(1, 1, 1), below[cells - 1][own]);
                    x.paint(1 + own, 1);
                    x.hour();
                }
            }
            LatestCoat wet = Due.on("street 1 50 0;thing 2 0;painter 1 0;coat 0 0;coat 1 0");
            wet.vote(0);
            t.is("bare, above", wet.share(0, 0, 0), 0);
            t.is("bare, below", wet.share(0, 0, 1), 1);
        });
        t.test(23, "SHARE part 0: above, 1: below the line.", () -> {
            LatestCoat x = Due.on("street 1 50 0;thing 6 0;painter 1 0;coat 0 0;coat 5 0");
            t.is("above", x.share(0, 0, 0), 1);
            t.is("below", x.share(0, 0, 1), 3);
            x.paint(3, 0);
            t.is("a wet one is not his", x.share(0, 0, 1), 3);
        });
        t.test(23, "NONE without these.", () -> {
            LatestCoat x = Due.on("street 1 50 0;thing 1 0;painter 1 0;coat 0 0");
            for (int bad : new int[] {-1, 1, 4, MIN, MAX}) {
                t.is("painter " + bad, x.share(bad, 0, 0), -1);
                t.is("thing " + bad, x.share(0, bad, 0), -1);
            }
            for (int bad : new int[] {-1, 2, MIN, MAX}) {
                t.is("part " + bad, x.share(0, 0, bad), -1);
            }
            t.is("no street", new LatestCoat().share(0, 0, 0), -1);
        });
    }

    private static void then(Sentences t) {
        t.test(24, "THEN: who owned a THING at the begin of an HOUR that was, by the coats that are there now", () -> {
            LatestCoat x = Due.on("street 1 50 0;thing 1 0;painter 1 0;painter 2 0;painter 3 0;coat 0 0");
            x.paint(0, 1);
            x.hour();
            x.paint(0, 2);
            x.hour();
            int[] owner = {0, 1, 2};
            for (int hour = 0; hour < 3; hour++) {
                t.is("at " + hour, x.then(0, hour), owner[hour]);
            }
            x.scrape(0);
            t.is("the last is scraped, so it never was", x.then(0, 2), 1);
            x.scrape(0);
            t.is("the one under it too", x.then(0, 2), 0);
            x.scrape(0);
            t.is("no coat", x.then(0, 0), -1);
        });
        t.test(24, "and were painted in HOURS ahead of it (told ones are dry long since)", () -> {
            LatestCoat x = Due.on("street 3 50 0;thing 1 0;painter 1 0;painter 2 0;coat 0 0;suit");
            x.hour();
            x.paint(0, 1);
            t.is("told, so dry at 0", x.then(0, 0), 0);
            t.is("this hour's not yet", x.then(0, 1), 0);
            Due.hours(x, 3);
            int[] owner = {0, 0, -1, -1, 1};
            for (int hour = 0; hour <= 4; hour++) {
                t.is("in suit at " + hour, x.then(0, hour), owner[hour]);
            }
            LatestCoat y = Due.on("street 1 50 0;thing 1 0;painter 1 0;coat 0 0");
            for (int k = 0; k < 5; k++) {
                y.paint(0, 0);
            }
            t.is("five of this hour, so none ahead of it", y.then(0, 0), -1);
            LatestCoat wide = Due.on("street 1 50 0;thing 2 0;thing 1 0;painter 1 0;painter 2 0;coat 0 0;coat 2 1");
            t.is("by the cells of that thing alone", wide.then(0, 0), 0);
            t.is("and of the other", wide.then(1, 0), 1);
        });
        t.test(24, "THEN (HOUR 0 to the HOUR now; bare now: NONE): who; NONE: nobody", () -> {
            LatestCoat x = Due.on("street 1 50 0;thing 1 0;thing 1 0;painter 1 0;painter 2 0;coat 0 1");
            t.is("0, now", x.then(0, 0), 1);
            t.is("1, to come", x.then(0, 1), -2);
            Due.hours(x, 2);
            t.is("2, now", x.then(0, 2), 1);
            t.is("3, to come", x.then(0, 3), -2);
            t.is("nobody", x.then(1, 2), -1);
            x.vote(0);
            for (int hour = 0; hour < 3; hour++) {
                t.is("bare now", x.then(0, hour), -1);
            }
            t.is("bare, but to come", x.then(0, 3), -2);
        });
        t.test(24, "-2 without these.", () -> {
            LatestCoat x = Due.on("street 1 50 0;thing 1 0;painter 1 0;coat 0 0");
            for (int bad : new int[] {-1, 1, 4, MIN, MAX}) {
                t.is("thing " + bad, x.then(bad, 0), -2);
                t.is("hour " + bad, x.then(0, bad), -2);
            }
            t.is("no street", new LatestCoat().then(0, 0), -2);
        });
    }

    private static void byPart(Sentences t) {
        t.test(25, "BY PART: who would own a THING, if PART was so (1 to 100)", () -> {
            LatestCoat x = Due.on("street 1 100 0;thing 6 0;thing 1 0;painter 1 0;painter 2 0;coat 0 1;coat 1 1;coat 2 0;coat 6 0");
            t.is("0", x.byPart(0, 0), -2);
            t.is("1", x.byPart(0, 1), 1);
            t.is("33", x.byPart(0, 33), 1);
            t.is("34", x.byPart(0, 34), -1);
            t.is("100", x.byPart(0, 100), -1);
            t.is("100 of one", x.byPart(1, 100), 0);
            t.is("101", x.byPart(1, 101), -2);
            x.scrape(0);
            t.is("a tie", x.byPart(0, 1), -1);
            t.is("PART itself", x.count(1), 100);
        });
        t.test(25, "BY PART: who; NONE: nobody", () -> {
            LatestCoat x = Due.on("street 1 1 0;thing 1 0;thing 1 0;thing 1 0;painter 1 0;coat 0 0;coat 2 0");
            t.is("who", x.byPart(0, 100), 0);
            t.is("no coat", x.byPart(1, 1), -1);
            x.vote(2);
            t.is("bare", x.byPart(2, 1), -1);
        });
        t.test(25, "-2 without these.", () -> {
            LatestCoat x = Due.on("street 1 50 0;thing 1 0;painter 1 0;coat 0 0");
            for (int bad : new int[] {-1, 1, 4, MIN, MAX}) {
                t.is("thing " + bad, x.byPart(bad, 50), -2);
            }
            for (int bad : new int[] {0, 101, -1, MIN, MAX}) {
                t.is("part " + bad, x.byPart(0, bad), -2);
            }
            t.is("no street", new LatestCoat().byPart(0, 50), -2);
        });
    }

    private static void one(Sentences t) {
        t.test(26, "ONE: the first HOUR from now on (100 are looked at)", () -> {
            String street = "street 1 50 0;thing 1 0;painter 1 0";
            t.is("now", Due.on(street + ";coat 0 0").one(), 0);
            t.is("the last of 100", ruled(street, "paint 1 if hour=98").one(), 99);
            LatestCoat x = ruled(street, "paint 1 if hour=99");
            t.is("none of 100", x.one(), -2);
            x.hour();
            t.is("from 1 on", x.one(), 100);
            Due.hours(x, 49);
            t.is("from now on", x.one(), 100);
            Due.hours(x, 60);
            t.is("it is so now", x.one(), 110);
        });
        t.test(26, "at whose begin the top coats, wet or dry, of all CELLS of THINGS that are not bare have one COLOUR", () -> {
            String street = "street 9 50 0;thing 1 0;thing 1 0;painter 4 0;painter 4 0;painter 5 0;coat 0 0;coat 1 ";
            t.is("of two painters", Due.on(street + "1").one(), 0);
            t.is("of two colours", Due.on(street + "2").one(), -2);
            LatestCoat x = Due.on(street + "2");
            x.paint(1, 1);
            t.is("a wet top coat", x.one(), 0);
            LatestCoat y = Due.on(street + "1");
            y.paint(1, 2);
            t.is("a wet one of another colour", y.one(), -2);
            y.vote(1);
            t.is("the other thing is bare", y.one(), 0);
            t.is("washed off at last", ruled(street + "1;rain 4 4", "paint 1 if hour=0 and painter=2").one(), 0);
            LatestCoat z = Due.on(street + "1;rain 4 4");
            z.paint(0, 2);
            t.is("behind the rain", z.one(), 5);
        });
        t.test(26, "(each has one; without such CELLS: this HOUR)", () -> {
            LatestCoat x = Due.on("street 9 50 0;thing 2 0;painter 4 0;coat 0 0");
            t.is("one has none", x.one(), -2);
            Due.hours(x, 3);
            x.vote(0);
            t.is("all bare", x.one(), 3);
            LatestCoat none = Due.on("street 9 50 0;painter 4 0");
            none.hour();
            t.is("no cells", none.one(), 1);
        });
        t.test(26, "ONE; -2: at none of these", () -> t.is("no coat", Due.on("street 9 50 0;thing 1 0").one(), -2));
        t.test(26, "NONE without a STREET.", () -> t.is("no street", new LatestCoat().one(), -1));
    }
}
