/** The document's sentences on coats, owners, hours and acts, and on what is there: promises 7 to 16. */
public final class ActSentencesTest {
    private static final int MIN = Sentences.MIN;
    private static final int MAX = Sentences.MAX;

    private ActSentencesTest() {
    }

    public static void main(String[] args) {
        Sentences t = new Sentences(true);
        all(t);
        t.close("ActSentencesTest");
    }

    static void all(Sentences t) {
        coats(t);
        owners(t);
        ownersOfThings(t);
        choosing(t);
        hours(t);
        acts(t);
        cell(t);
        coat(t);
        thing(t);
        painter(t);
        rain(t);
        hour(t);
        paint(t);
        scrapeAndVote(t);
        undo(t);
    }

    private static void coats(Sentences t) {
        t.test(8, "A CELL has COATS, one above the other, 5 at most (of a sixth the lowest goes)", () -> {
            LatestCoat told = Due.on("street 1 50 0;thing 1 0;painter 0 0;painter 1 0;coat 0 1" + ";coat 0 0".repeat(5));
            t.is("told ones", told.cell(0, 1), 5);
            t.is("the lowest", told.coat(0, 4, 0), 0);
            LatestCoat x = Due.on("street 9 50 0;thing 2 0;painter 0 0;painter 1 0;painter 2 0;painter 3 0;coat 0 3;coat 0 2");
            for (int painter = 0; painter < 3; painter++) {
                t.is("painted", x.paint(0, painter), 3 + painter);
            }
            t.is("the lowest of five", x.coat(0, 4, 0), 3);
            t.is("a sixth", x.paint(0, 3), 5);
            int[] fromTop = {3, 2, 1, 0, 2};
            for (int k = 0; k < 5; k++) {
                t.is("from the top " + k, x.coat(0, k, 0), fromTop[k]);
            }
            t.is("no sixth", x.coat(0, 5, 0), -2);
            Due.rule(x, "paint 1");
            x.force(0);
            x.hour();
            t.is("by a rule too", x.cell(0, 1), 5);
            t.is("all told ones went", x.coat(0, 4, 2), 0);
            t.is("the other cell is as it was", x.cell(1, 1), 0);
            for (int k = 4; k >= 0; k--) {
                t.is("scraped", told.scrape(0), 0);
                t.is("coats left", told.cell(0, 1), k);
            }
            t.is("what went does not come up again", told.scrape(0), -1);
        });
        t.test(7, "a coat painted in an HOUR is wet in it and till DRY HOURS are over (that many HOURS later it is dry)", () -> {
            for (int dry = 1; dry <= 9; dry++) {
                LatestCoat x = Due.on("street " + dry + " 50 0;thing 1 0;painter 1 0");
                Due.hours(x, 2);
                x.paint(0, 0);
                for (int later = 0; later <= dry; later++) {
                    t.is("wet " + later + " hours later, DRY " + dry, x.cell(0, 4), later < dry ? 1 : 0);
                    t.is("its owner", x.cell(0, 2), later < dry ? -1 : 0);
                    x.hour();
                }
            }
        });
    }

    private static void owners(Sentences t) {
        t.test(7, "A CELL is owned by who painted its top coat that is dry", () -> {
            LatestCoat x = Due.on("street 1 50 0;thing 1 0;painter 1 0;painter 1 0;painter 1 0;coat 0 2;coat 0 1");
            t.is("the top one", x.cell(0, 2), 1);
            x.paint(0, 0);
            t.is("under a wet one", x.cell(0, 2), 1);
            x.hour();
            t.is("it is dry", x.cell(0, 2), 0);
            x.scrape(0);
            x.scrape(0);
            t.is("scraped down", x.cell(0, 2), 2);
        });
        t.test(7, "if a coat above that is wet, by nobody, if there is SUIT by the text", () -> {
            LatestCoat x = Due.on("street 2 50 0;thing 2 0;painter 1 0;painter 2 0;coat 0 0;coat 1 0;suit");
            x.paint(0, 1);
            t.is("under a wet one", x.cell(0, 2), -1);
            t.is("another cell", x.cell(1, 2), 0);
            x.hour();
            x.paint(0, 1);
            x.hour();
            t.is("one dry, another wet above it", x.cell(0, 2), -1);
            x.scrape(0);
            t.is("the wet one is scraped", x.cell(0, 2), 1);
            LatestCoat own = Due.on("street 2 50 0;thing 1 0;painter 1 0;coat 0 0;suit");
            own.paint(0, 0);
            t.is("under one's own wet one too", own.cell(0, 2), -1);
        });
        t.test(7, "nobody owns a CELL without a dry coat", () -> {
            LatestCoat x = Due.on("street 2 50 0;thing 2 0;painter 1 0;painter 2 0;coat 0 1");
            t.is("no coat", x.cell(1, 2), -1);
            x.paint(1, 0);
            t.is("a wet one", x.cell(1, 2), -1);
            for (int k = 0; k < 4; k++) {
                x.paint(0, 0);
            }
            t.is("four wet ones above a dry one", x.cell(0, 2), 1);
            x.paint(0, 0);
            t.is("the dry one went", x.cell(0, 2), -1);
        });
    }

    private static String street(int part, int cells, int first, int second) {
        StringBuilder text = new StringBuilder("street 1 " + part + " 0;thing " + cells + " 0;painter 1 0;painter 2 0;painter 3 0");
        for (int k = 0; k < first + second; k++) {
            text.append(";coat ").append(k).append(k < first ? " 0" : " 1");
        }
        return text.toString();
    }

    private static void ownersOfThings(Sentences t) {
        t.test(9, "A THING that is not bare is owned by who owns PART of a hundred of its CELLS, or more", () -> {
            t.is("66 of 2 of 3", Due.on(street(66, 3, 2, 0)).thing(0, 3), 0);
            t.is("67 of 2 of 3", Due.on(street(67, 3, 2, 0)).thing(0, 3), -1);
            t.is("50 of 1 of 2", Due.on(street(50, 2, 1, 0)).thing(0, 3), 0);
            t.is("51 of 1 of 2", Due.on(street(51, 2, 1, 0)).thing(0, 3), -1);
            t.is("16 of 1 of 6", Due.on(street(16, 6, 1, 0)).thing(0, 3), 0);
            t.is("17 of 1 of 6", Due.on(street(17, 6, 1, 0)).thing(0, 3), -1);
            t.is("83 of 5 of 6", Due.on(street(83, 6, 5, 0)).thing(0, 3), 0);
            t.is("84 of 5 of 6", Due.on(street(84, 6, 5, 0)).thing(0, 3), -1);
            t.is("100 of all", Due.on(street(100, 6, 6, 0)).thing(0, 3), 0);
            t.is("1 of none", Due.on(street(1, 6, 0, 0)).thing(0, 3), -1);
            LatestCoat x = Due.on(street(1, 1, 1, 0));
            x.vote(0);
            t.is("bare", x.thing(0, 3), -1);
        });
        t.test(9, "and more of them than anybody else (else nobody does)", () -> {
            t.is("1 and 1", Due.on(street(1, 6, 1, 1)).thing(0, 3), -1);
            t.is("2 and 1", Due.on(street(1, 6, 2, 1)).thing(0, 3), 0);
            t.is("2 and 3", Due.on(street(1, 6, 2, 3)).thing(0, 3), 1);
            t.is("3 and 3", Due.on(street(50, 6, 3, 3)).thing(0, 3), -1);
            t.is("1 and 1 below a third's 2", Due.on(street(1, 6, 1, 1) + ";coat 2 2;coat 3 2").thing(0, 3), 2);
            t.is("1 and 2 and 2", Due.on(street(1, 6, 1, 2) + ";coat 3 2;coat 4 2").thing(0, 3), -1);
            t.is("of one colour, but two painters",
                Due.on("street 1 50 0;thing 2 0;painter 1 0;painter 1 0;coat 0 0;coat 1 1").thing(0, 3), -1);
        });
    }

    private static LatestCoat ruled(String street, String rule) {
        LatestCoat x = Due.on(street);
        if (Due.rule(x, rule) != 0) {
            throw new IllegalStateException("the test's rule has a fault: " + rule);
        }
        x.force(0);
        return x;
    }

    private static void choosing(Sentences t) {
        t.test(12, "paints the one CELL of a THING that is not bare", () -> {
            LatestCoat x = ruled("street 1 50 0;thing 2 0;thing 1 0;thing 1 0;painter 1 0;bare 1", "paint cell if cell<3;paint 1");
            x.vote(0);
            t.is("one", x.hour(), 1);
            t.is("the only one there is", x.cell(3, 1), 1);
            t.is("not the bare one", x.cell(2, 1), 0);
            x.vote(2);
            t.is("all bare", x.hour(), 0);
        });
        t.test(12, "for which the SUM of the RULE's first CLAUSE without a TEST, or whose TEST holds (0 without), is greatest", () -> {
            LatestCoat x = ruled("street 1 50 0;thing 4 0;painter 1 0",
                "paint 5 if cell=1 and hour=0;paint 9 if cell=9;paint 3+cell if hour<2;paint 99 if hour=0;paint 0 if hour=3;paint 7-cell if hour<5");
            x.hour();
            t.is("3+cell is greatest for the last, 6", x.cell(3, 1), 1);
            Due.hours(x, 2);
            t.is("7-cell is greatest for the first", x.coat(0, 0, 2), 2);
            t.is("0 hides what comes behind it", x.hour(), 0);
            t.is("7-cell again", x.hour(), 1);
            t.is("no clause holds", x.hour(), 0);
            LatestCoat y = ruled("street 1 50 0;thing 3 0;painter 1 0", "paint 1;paint 5 if cell=1");
            y.hour();
            t.is("one without a test hides all behind it", y.cell(0, 1), 1);
            LatestCoat z = ruled("street 1 50 0;thing 3 0;painter 1 0", "paint cell-3 if cell<2");
            t.is("0 without is no ground to paint", z.hour(), 0);
        });
        t.test(12, "if it is above 0", () -> {
            String street = "street 1 50 0;thing 3 0;painter 1 0";
            t.is("1", ruled(street, "paint 1").hour(), 1);
            t.is("0", ruled(street, "paint 0").hour(), 0);
            t.is("-1", ruled(street, "paint 0-1").hour(), 0);
            t.is("gone round", ruled(street, "paint 65536*65536*65536*32768").hour(), 0);
            t.is("the greatest there is", ruled(street, "paint 65536*65536*65536*32768-1").hour(), 1);
        });
        t.test(12, "and their PURSE is COST or more", () -> {
            LatestCoat x = ruled("street 1 50 3;thing 1 0;painter 1 2;painter 1 3;painter 1 7", "paint 1");
            t.is("two of three", x.hour(), 2);
            t.is("not he who has 2", x.painter(0, 1), 2);
            t.is("he who has 3", x.painter(1, 1), 0);
            t.is("he who has 7", x.painter(2, 1), 4);
            t.is("one of three", x.hour(), 1);
            t.is("none", x.hour(), 0);
            t.is("for nothing", ruled("street 1 50 0;thing 1 0;painter 1 0", "paint 1").hour(), 1);
        });
        t.test(12, "of several the first", () -> {
            LatestCoat x = ruled("street 1 50 0;thing 2 0;thing 3 0;painter 1 0", "paint cell%3");
            x.hour();
            t.is("cell 2 of 2 and 5", x.cell(2, 1), 1);
            LatestCoat y = ruled("street 1 50 0;thing 2 0;thing 3 0;painter 1 0;bare 0", "paint 1");
            y.hour();
            t.is("the first that is not bare", y.cell(2, 1), 1);
        });
        t.test(12, "without a RULE nobody paints", () -> {
            LatestCoat x = Due.on("street 1 50 0;thing 1 0;painter 1 9");
            t.is("no rules", x.hour(), 0);
            Due.rule(x, "paint 1");
            t.is("none in force", x.hour(), 0);
            t.is("no coat", x.cell(0, 1), 0);
            x.force(0);
            t.is("in force", x.hour(), 1);
        });
    }

    private static void hours(Sentences t) {
        t.test(12, "(2) In RAIN all wet coats are washed off.", () -> {
            LatestCoat x = Due.on("street 2 50 0;thing 4 0;painter 1 0;coat 0 0;rain 2 2");
            x.paint(1, 0);
            x.hour();
            x.paint(0, 0);
            x.paint(2, 0);
            x.hour();
            x.paint(2, 0);
            x.paint(3, 0);
            t.is("ahead of it all are there", x.cell(2, 1), 2);
            x.hour();
            t.is("a told one stays, a wet one above it not", x.cell(0, 1), 1);
            t.is("one that is dry since this hour stays", x.cell(1, 1), 1);
            t.is("both of this hour and of the last go", x.cell(2, 1), 0);
            t.is("that of this hour goes", x.cell(3, 1), 0);
            x.paint(3, 0);
            x.hour();
            t.is("behind the rain they stay", x.cell(3, 1), 1);
            LatestCoat y = ruled("street 1 50 1;thing 1 0;painter 1 5;rain 0 0", "paint 1");
            t.is("what the rule painted in it", y.hour(), 1);
            t.is("goes too", y.cell(0, 1), 0);
            t.is("and its COST", y.painter(0, 1), 4);
            LatestCoat z = Due.on("street 9 50 0;thing 1 0;painter 1 0;rain 0 0");
            for (int k = 0; k < 6; k++) {
                z.paint(0, 0);
            }
            z.hour();
            t.is("five wet ones", z.cell(0, 1), 0);
        });
        t.test(12, "(3) HOUR is 1 more (999 at most).", () -> {
            LatestCoat x = Due.on("street 1 50 0");
            x.hour();
            t.is("1", x.count(9), 1);
            Due.hours(x, 497);
            t.is("498", x.count(9), 498);
            // more calls than an object is used for, so what is left of them is free; the bound holds all the same
            Due.hours(x, 600);
            t.is("999", x.count(9), 999);
        });
        t.test(12, "(4) Is HOUR then 12, 36, 60 .., who owns a THING gets its RENT", () -> {
            LatestCoat x = Due.on("street 1 50 0;thing 1 3;thing 1 5;thing 1 7;painter 1 1;painter 2 1;coat 0 0;coat 1 1");
            for (int hour = 1; hour <= 90; hour++) {
                x.hour();
                int noons = (hour + 12) / 24;
                t.is("painter 0 at " + hour, x.painter(0, 1), 1 + 3 * noons);
                t.is("painter 1 at " + hour, x.painter(1, 1), 1 + 5 * noons);
            }
            LatestCoat y = Due.on("street 1 50 0;thing 1 3;painter 1 0");
            Due.hours(y, 11);
            y.paint(0, 0);
            y.hour();
            t.is("dry just then", y.painter(0, 1), 3);
            LatestCoat wet = Due.on("street 2 50 0;thing 1 3;painter 1 0");
            Due.hours(wet, 11);
            wet.paint(0, 0);
            Due.hours(wet, 13);
            t.is("wet at 12, and 24 is no noon", wet.painter(0, 1), 0);
            LatestCoat rained = Due.on("street 1 50 0;thing 1 3;painter 1 0;rain 11 11");
            Due.hours(rained, 11);
            rained.paint(0, 0);
            rained.hour();
            t.is("washed off ahead of it", rained.painter(0, 1), 0);
            LatestCoat both = Due.on("street 1 50 0;thing 1 3;thing 1 20;painter 1 0;coat 0 0;coat 1 0");
            Due.hours(both, 12);
            t.is("of two things", both.painter(0, 1), 23);
        });
        t.test(12, "(PURSE 999 at most)", () -> {
            LatestCoat x = Due.on("street 1 50 1;thing 1 20;thing 1 20;thing 1 20;thing 1 19;painter 1 99;coat 0 0;coat 1 0;coat 2 0;coat 3 0");
            Due.hours(x, 12 + 10 * 24);
            t.is("11 noons", x.painter(0, 1), 99 + 11 * 79);
            Due.hours(x, 24);
            t.is("999", x.painter(0, 1), 999);
            x.paint(0, 0);
            t.is("COST less", x.painter(0, 1), 998);
            Due.hours(x, 24);
            t.is("999 again", x.painter(0, 1), 999);
        });
    }

    private static void acts(Sentences t) {
        t.test(13, "PAINT: a coat of a PAINTER's COLOUR, COST less in the PURSE, if it has as much", () -> {
            LatestCoat x = Due.on("street 1 50 4;thing 1 0;painter 8 8;painter 3 3");
            x.paint(0, 0);
            t.is("colour", x.coat(0, 0, 1), 8);
            t.is("purse", x.painter(0, 1), 4);
            t.is("just as much", x.paint(0, 0), 2);
            t.is("purse", x.painter(0, 1), 0);
            t.is("not as much", x.paint(0, 0), -1);
            t.is("one less", x.paint(0, 1), -1);
            t.is("his purse", x.painter(1, 1), 3);
            t.is("coats", x.cell(0, 1), 2);
        });
        t.test(13, "not on a THING that is bare", () -> {
            LatestCoat x = Due.on("street 1 50 0;thing 1 0;thing 1 0;thing 1 0;painter 1 0;bare 1");
            t.is("told bare", x.paint(1, 0), -1);
            x.vote(2);
            t.is("voted bare", x.paint(2, 0), -1);
            t.is("not bare", x.paint(0, 0), 1);
        });
        t.test(16, "ACTS: an HOUR; PAINT; SCRAPE", () -> {
            LatestCoat x = Due.on("street 1 50 0;thing 1 0;painter 1 0");
            x.hour();
            t.is("an hour", x.count(13), 1);
            x.paint(0, 0);
            t.is("paint", x.count(13), 2);
            x.scrape(0);
            t.is("scrape", x.count(13), 3);
            x.vote(0);
            t.is("vote", x.count(13), 4);
            Due.rule(x, "paint 1");
            x.force(0);
            x.seed(1);
            x.log(0, 0, 0);
            x.image(0);
            t.is("nothing else is one", x.count(13), 4);
        });
        t.test(14, "SCRAPE (the top coat of a CELL goes, wet or dry; not of one that is bare)", () -> {
            LatestCoat x = Due.on("street 2 50 0;thing 2 0;thing 1 0;painter 1 0;painter 2 0;coat 0 1;coat 0 0;coat 1 0;bare 1");
            x.paint(0, 1);
            x.scrape(0);
            t.is("wet", x.cell(0, 3), 0);
            x.scrape(0);
            t.is("dry", x.cell(0, 3), 1);
            t.is("the other cell", x.cell(1, 1), 1);
            x.vote(0);
            t.is("bare", x.scrape(1), -1);
            t.is("told bare", x.scrape(2), -1);
        });
        t.test(15, "VOTE (a THING becomes bare: all its coats go; it can't be undone by another VOTE)", () -> {
            LatestCoat x = Due.on("street 2 50 0;thing 1 0;thing 2 0;thing 1 0;painter 1 0;coat 0 0;coat 1 0;coat 1 0;coat 2 0;coat 3 0");
            x.paint(2, 0);
            x.vote(1);
            t.is("bare", x.thing(1, 4), 1);
            t.is("its first cell", x.cell(1, 1), 0);
            t.is("its last cell, wet and dry", x.cell(2, 1), 0);
            t.is("ahead of it", x.cell(0, 1), 1);
            t.is("behind it", x.cell(3, 1), 1);
            t.is("nobody's", x.thing(1, 3), -1);
            t.is("another vote", x.vote(1), -1);
            t.is("still bare", x.thing(1, 4), 1);
        });
        t.test(16, "The last 20 ACTS can be UNDONE, the last first.", () -> {
            LatestCoat x = Due.on("street 1 50 1;thing 2 0;painter 1 99");
            for (int k = 0; k < 21; k++) {
                x.paint(k % 2, 0);
            }
            t.is("twenty", x.count(13), 20);
            for (int k = 19; k >= 0; k--) {
                t.is("more", x.undo(), k);
                t.is("the last first", x.painter(0, 1), 98 - k);
            }
            t.is("no more", x.undo(), -2);
            t.is("the first of 21 stands", x.painter(0, 1), 98);
            t.is("its coat", x.cell(0, 1), 1);
            t.is("no coat of the second", x.cell(1, 1), 0);
            LatestCoat y = Due.on("street 1 50 1;thing 2 0;painter 1 99");
            for (int k = 0; k < 45; k++) {
                y.paint(k % 2, 0);
            }
            for (int k = 19; k >= 0; k--) {
                t.is("more of 45", y.undo(), k);
                t.is("the last of 45 first", y.painter(0, 1), 74 - k);
            }
        });
    }

    private static void cell(Sentences t) {
        String street = "street 2 50 0;thing 1 0;thing 2 0;painter 1 0;painter 2 0;coat 1 1;coat 1 0";
        t.test(7, "Of a CELL what 0: its THING", () -> {
            LatestCoat x = Due.on(street);
            t.is("0", x.cell(0, 0), 0);
            t.is("1", x.cell(1, 0), 1);
            t.is("2", x.cell(2, 0), 1);
        });
        t.test(7, "1: how many coats", () -> {
            LatestCoat x = Due.on(street);
            t.is("none", x.cell(0, 1), 0);
            t.is("two", x.cell(1, 1), 2);
            x.paint(1, 1);
            t.is("wet ones too", x.cell(1, 1), 3);
        });
        t.test(7, "2: who owns it (NONE)", () -> {
            LatestCoat x = Due.on(street);
            t.is("none", x.cell(0, 2), -1);
            t.is("0", x.cell(1, 2), 0);
            x.paint(2, 1);
            t.is("wet", x.cell(2, 2), -1);
        });
        t.test(7, "3: who painted its top coat (NONE)", () -> {
            LatestCoat x = Due.on(street);
            t.is("none", x.cell(0, 3), -1);
            t.is("0", x.cell(1, 3), 0);
            x.paint(1, 1);
            t.is("wet", x.cell(1, 3), 1);
        });
        t.test(7, "4: 1 if that is wet, else 0", () -> {
            LatestCoat x = Due.on(street);
            t.is("none", x.cell(0, 4), 0);
            t.is("none, where coats are long wet", Due.on("street 9 50 0;thing 1 0").cell(0, 4), 0);
            t.is("dry", x.cell(1, 4), 0);
            x.paint(1, 1);
            t.is("wet", x.cell(1, 4), 1);
        });
        t.test(7, "-2 without these.", () -> {
            LatestCoat x = Due.on(street);
            for (int bad : new int[] {-1, 3, 16, MIN, MAX}) {
                t.is("cell " + bad, x.cell(bad, 1), -2);
            }
            for (int bad : new int[] {-1, 5, MIN, MAX}) {
                t.is("what " + bad, x.cell(1, bad), -2);
            }
            t.is("no street", new LatestCoat().cell(0, 1), -2);
        });
    }

    private static void coat(Sentences t) {
        String street = "street 2 50 0;thing 2 0;painter 5 0;painter 6 0;coat 1 1;coat 1 0";
        t.test(8, "Of the k-th coat of a CELL from the top (0 and on) what 0: who painted it, 1: COLOUR", () -> {
            LatestCoat x = Due.on(street);
            x.paint(1, 1);
            int[] painter = {1, 0, 1};
            for (int k = 0; k < 3; k++) {
                t.is("painter of " + k, x.coat(1, k, 0), painter[k]);
                t.is("colour of " + k, x.coat(1, k, 1), 5 + painter[k]);
            }
        });
        t.test(8, "2: the HOUR (NONE: told)", () -> {
            LatestCoat x = Due.on(street);
            x.paint(1, 1);
            x.hour();
            x.paint(1, 0);
            int[] hour = {1, 0, -1, -1};
            for (int k = 0; k < 4; k++) {
                t.is("hour of " + k, x.coat(1, k, 2), hour[k]);
            }
            Due.hours(x, 400);
            x.paint(0, 0);
            t.is("a late hour", x.coat(0, 0, 2), 401);
        });
        t.test(8, "-2 without these.", () -> {
            LatestCoat x = Due.on(street);
            for (int bad : new int[] {-1, 2, MIN, MAX}) {
                t.is("cell " + bad, x.coat(bad, 0, 0), -2);
                t.is("coat " + bad, x.coat(1, bad, 0), -2);
            }
            t.is("no coat 0", x.coat(0, 0, 0), -2);
            t.is("no coat 5", x.coat(1, 5, 0), -2);
            for (int bad : new int[] {-1, 3, MIN, MAX}) {
                t.is("what " + bad, x.coat(1, 0, bad), -2);
            }
            t.is("no street", new LatestCoat().coat(0, 0, 0), -2);
        });
    }

    private static void thing(Sentences t) {
        String street = "street 2 50 0;thing 2 4;thing 6 20;painter 5 0;coat 0 0;bare 1";
        t.test(9, "Of a THING what 0: its first CELL, 1: CELLS, 2: RENT", () -> {
            LatestCoat x = Due.on(street);
            int[][] want = {{0, 2, 4}, {2, 6, 20}};
            for (int thing = 0; thing < 2; thing++) {
                for (int what = 0; what < 3; what++) {
                    t.is("thing " + thing + ", " + what, x.thing(thing, what), want[thing][what]);
                }
            }
        });
        t.test(9, "3: who owns it (NONE)", () -> {
            LatestCoat x = Due.on(street);
            t.is("0", x.thing(0, 3), 0);
            t.is("nobody", x.thing(1, 3), -1);
            x.scrape(0);
            t.is("nobody now", x.thing(0, 3), -1);
        });
        t.test(9, "4: 1 if bare, else 0", () -> {
            LatestCoat x = Due.on(street);
            t.is("not", x.thing(0, 4), 0);
            t.is("bare", x.thing(1, 4), 1);
        });
        t.test(9, "-2 without these.", () -> {
            LatestCoat x = Due.on(street);
            for (int bad : new int[] {-1, 2, 4, MIN, MAX}) {
                t.is("thing " + bad, x.thing(bad, 0), -2);
            }
            for (int bad : new int[] {-1, 5, MIN, MAX}) {
                t.is("what " + bad, x.thing(0, bad), -2);
            }
            t.is("no street", new LatestCoat().thing(0, 0), -2);
        });
    }

    private static void painter(Sentences t) {
        String street = "street 2 50 0;thing 1 0;thing 6 0;thing 6 0;thing 3 0;painter 5 7;painter 6 0;coat 0 1;coat 1 0;coat 15 1;coat 14 1";
        t.test(10, "Of a PAINTER what 0: COLOUR, 1: PURSE", () -> {
            LatestCoat x = Due.on(street);
            t.is("colour", x.painter(0, 0), 5);
            t.is("purse", x.painter(0, 1), 7);
            t.is("colour", x.painter(1, 0), 6);
            t.is("purse", x.painter(1, 1), 0);
        });
        t.test(10, "2: CELLS they own, as bits", () -> {
            LatestCoat x = Due.on(street);
            t.is("the first and the last", x.painter(1, 2), 1 + (1 << 14) + (1 << 15));
            t.is("one", x.painter(0, 2), 2);
            x.paint(2, 0);
            t.is("a wet one not", x.painter(0, 2), 2);
            x.scrape(1);
            t.is("none", x.painter(0, 2), 0);
        });
        t.test(10, "3: THINGS, as bits", () -> {
            LatestCoat x = Due.on(street);
            t.is("the first and the last", x.painter(1, 3), 1 + 8);
            t.is("none", x.painter(0, 3), 0);
            x.vote(0);
            t.is("the last", x.painter(1, 3), 8);
        });
        t.test(10, "NONE without these.", () -> {
            LatestCoat x = Due.on(street);
            for (int bad : new int[] {-1, 2, 4, MIN, MAX}) {
                t.is("painter " + bad, x.painter(bad, 0), -1);
            }
            for (int bad : new int[] {-1, 4, MIN, MAX}) {
                t.is("what " + bad, x.painter(0, bad), -1);
            }
            t.is("no street", new LatestCoat().painter(0, 0), -1);
        });
    }

    private static void rain(Sentences t) {
        t.test(11, "1 if it rains in an HOUR, else 0", () -> {
            LatestCoat x = Due.on("street 1 50 0;rain 0 0;rain 5 6;rain 199 199");
            int[] rainy = {0, 5, 6, 199};
            int[] fair = {1, 4, 7, 198, 200, 999, 1000, MAX};
            for (int hour : rainy) {
                t.is("hour " + hour, x.rain(hour), 1);
            }
            for (int hour : fair) {
                t.is("hour " + hour, x.rain(hour), 0);
            }
            Due.hours(x, 3);
            t.is("an hour that was", x.rain(0), 1);
        });
        t.test(11, "NONE below 0, or without a STREET.", () -> {
            LatestCoat x = Due.on("street 1 50 0;rain 0 199");
            t.is("-1", x.rain(-1), -1);
            t.is("least", x.rain(MIN), -1);
            t.is("no street", new LatestCoat().rain(0), -1);
        });
    }

    private static void hour(Sentences t) {
        t.test(12, "An HOUR: how many coats were painted in it", () -> {
            LatestCoat x = ruled("street 1 50 1;thing 1 0;painter 1 1;painter 2 2;painter 3 3;painter 4 3;rain 0 0", "paint 1");
            t.is("four, though washed off", x.hour(), 4);
            t.is("three", x.hour(), 3);
            t.is("two", x.hour(), 2);
            t.is("none", x.hour(), 0);
            x.paint(0, 0);
            t.is("by hand does not count", x.hour(), 0);
        });
        t.test(12, "NONE, and nothing happens, without a STREET", () -> {
            LatestCoat x = new LatestCoat();
            t.is("hour", x.hour(), -1);
            t.is("HOUR", x.count(9), 0);
            t.is("no act", x.undo(), -2);
        });
        t.test(12, "or at HOUR 999.", () -> {
            LatestCoat x = ruled("street 1 50 0;thing 1 20;painter 1 0", "paint 1");
            Due.hours(x, 998);
            t.is("the last", x.hour(), 1);
            t.is("999", x.count(9), 999);
            String before = Due.seen(x);
            t.is("no more", x.hour(), -1);
            t.same("nothing happens", before, Due.seen(x));
            t.is("the one that can be undone is the last", x.undo(), 19);
            t.is("998", x.count(9), 998);
        });
    }

    private static void paint(Sentences t) {
        t.test(13, "PAINT: coats of the CELL then", () -> {
            LatestCoat x = Due.on("street 1 50 0;thing 2 0;painter 1 0");
            int[] want = {1, 2, 3, 4, 5, 5, 5};
            for (int coats : want) {
                t.is("coats", x.paint(1, 0), coats);
            }
            t.is("the other cell", x.cell(0, 1), 0);
        });
        t.test(13, "NONE, and nothing happens, if it can't be.", () -> {
            LatestCoat x = Due.on("street 1 50 3;thing 1 0;thing 1 0;painter 1 2;painter 2 3;bare 1");
            x.hour();
            String before = Due.seen(x);
            for (int bad : new int[] {-1, 2, 16, MIN, MAX}) {
                t.is("cell " + bad, x.paint(bad, 1), -1);
                t.is("painter " + bad, x.paint(0, bad), -1);
            }
            t.is("bare", x.paint(1, 1), -1);
            t.is("purse", x.paint(0, 0), -1);
            t.same("nothing happens", before, Due.seen(x));
            t.is("no street", new LatestCoat().paint(0, 0), -1);
        });
    }

    private static void scrapeAndVote(Sentences t) {
        t.test(14, "SCRAPE: who had painted it", () -> {
            LatestCoat x = Due.on("street 1 50 0;thing 1 0;painter 1 0;painter 2 0;coat 0 1;coat 0 0");
            x.paint(0, 1);
            t.is("the top", x.scrape(0), 1);
            t.is("the next", x.scrape(0), 0);
            t.is("the last", x.scrape(0), 1);
        });
        t.test(14, "NONE, and nothing happens, without these.", () -> {
            LatestCoat x = Due.on("street 1 50 0;thing 2 0;thing 1 0;painter 1 0;coat 1 0;coat 2 0;bare 1");
            x.hour();
            String before = Due.seen(x);
            t.is("no coat", x.scrape(0), -1);
            t.is("bare", x.scrape(2), -1);
            for (int bad : new int[] {-1, 3, 16, MIN, MAX}) {
                t.is("cell " + bad, x.scrape(bad), -1);
            }
            t.same("nothing happens", before, Due.seen(x));
            t.is("no street", new LatestCoat().scrape(0), -1);
        });
        t.test(15, "VOTE: how many coats went", () -> {
            LatestCoat x = Due.on("street 1 50 0;thing 6 0;thing 1 0;thing 1 0;painter 1 0;coat 7 0");
            for (int k = 0; k < 36; k++) {
                x.paint(k % 6, 0);
            }
            t.is("thirty", x.vote(0), 30);
            t.is("none", x.vote(1), 0);
            t.is("one", x.vote(2), 1);
        });
        t.test(15, "NONE, and nothing happens, without a THING that is not bare.", () -> {
            LatestCoat x = Due.on("street 1 50 0;thing 1 0;thing 1 0;painter 1 0;coat 0 0;bare 1");
            x.hour();
            String before = Due.seen(x);
            t.is("bare", x.vote(1), -1);
            for (int bad : new int[] {-1, 2, 4, 31, 32, 33, MIN, MAX}) {
                t.is("thing " + bad, x.vote(bad), -1);
            }
            t.same("nothing happens", before, Due.seen(x));
            x.vote(0);
            t.is("voted bare", x.vote(0), -1);
            t.is("acts", x.count(13), 2);
            t.is("no street", new LatestCoat().vote(0), -1);
        });
    }

    private static void undo(Sentences t) {
        t.test(16, "The last ACT is UNDONE: how many more can be", () -> {
            LatestCoat x = ruled("street 1 50 1;thing 1 2;thing 1 0;painter 1 9;coat 0 0;rain 11 11", "paint 1 if hour=11");
            Due.hours(x, 10);
            String[] seen = new String[5];
            seen[0] = Due.seen(x);
            x.paint(0, 0);
            seen[1] = Due.seen(x);
            x.scrape(0);
            seen[2] = Due.seen(x);
            x.vote(1);
            seen[3] = Due.seen(x);
            x.hour();
            seen[4] = Due.seen(x);
            x.hour();
            t.is("a rent was got and a coat painted", x.painter(0, 1), 9);
            for (int k = 4; k >= 0; k--) {
                t.is("how many more", x.undo(), 10 + k);
                t.same("as it was", seen[k], Due.seen(x));
            }
        });
        t.test(16, "-2, and nothing happens: none can.", () -> {
            LatestCoat x = new LatestCoat();
            t.is("no street", x.undo(), -2);
            LatestCoat y = Due.on("street 1 50 0;thing 1 0;painter 1 0;coat 0 0");
            t.is("no act", y.undo(), -2);
            y.hour();
            t.is("one", y.undo(), 0);
            String before = Due.seen(y);
            t.is("no more", y.undo(), -2);
            t.same("nothing happens", before, Due.seen(y));
        });
    }
}
