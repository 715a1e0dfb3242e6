/** The document's sentences on the tape and on a street's text: promises 1 to 4. */
public final class StreetSentencesTest {
    private static final int MIN = Sentences.MIN;
    private static final int MAX = Sentences.MAX;

    private StreetSentencesTest() {
    }

    public static void main(String[] args) {
        Sentences t = new Sentences(true);
        all(t);
        t.close("StreetSentencesTest");
    }

    static void all(Sentences t) {
        newObject(t);
        feed(t);
        end(t);
        street(t);
        clauses(t);
        head(t);
        things(t);
        painters(t);
        coats(t);
        bare(t);
        rains(t);
        suit(t);
        faults(t);
        clauseFaults(t);
    }

    private static void newObject(Sentences t) {
        t.test(1, "No STREET", () -> {
            LatestCoat x = new LatestCoat();
            t.is("hour", x.hour(), -1);
            t.is("rain", x.rain(0), -1);
            t.is("when", x.when(), -1);
            t.is("one", x.one(), -1);
            t.is("cells", x.cell(0, 0), -2);
            t.is("things", x.thing(0, 0), -2);
            t.is("painters", x.painter(0, 0), -1);
            for (int what = 0; what < 7; what++) {
                t.is("count " + what, x.count(what), 0);
            }
        });
        t.test(1, "no RULES", () -> {
            LatestCoat x = new LatestCoat();
            t.is("rules", x.count(7), 0);
            t.is("none to force", x.force(0), -2);
            t.is("the first is 0", Due.rule(x, "paint 1"), 0);
        });
        t.test(1, "none IN FORCE", () -> {
            LatestCoat x = new LatestCoat();
            t.is("in force", x.count(8), -1);
            t.is("which was", x.force(-1), -1);
            Due.rule(x, "paint 1");
            Due.street(x, "street 1 50 0;thing 1 0;painter 1 0");
            t.is("nobody paints", x.hour(), 0);
        });
        t.test(1, "An object is used for at most 512 calls after it has been made", () -> {
            // three feeds, an end and a street, then hours: the 512th call is the one asked
            String text = "street 1 50 0;thing 1 2;painter 1 0;coat 0 0";
            LatestCoat x = Due.on(text);
            Due.hours(x, 506);
            t.is("HOUR", x.count(9), 506);
            LatestCoat y = Due.on(text);
            Due.hours(y, 506);
            t.is("21 rents", y.painter(0, 1), 42);
        });
        t.test(1, "An object is used for at most 512 calls", () -> {
            LatestCoat x = Due.on("street 9 50 0;thing 1 2;painter 1 0");
            Due.rule(x, "paint 1 if hour=575");
            x.force(0);
            Due.hours(x, 480);
            t.is("a coat that is to be painted in hour 575 is wet at 580", x.ahead(0, 100, 2), -1);
            Due.hours(x, 10);
            t.is("and dry at 590", x.ahead(0, 100, 2), 0);
        });
        t.test(1, "what later calls answer is free", () -> {
            LatestCoat x = Due.on("street 1 50 0;thing 1 2;painter 1 0;coat 0 0");
            Due.hours(x, 2000);
            t.is("they do not throw, and HOUR is in its bounds", x.count(9) <= 999 ? 1 : 0, 1);
        });
        t.test(1, "The constants: `NONE = -1`: None.", () -> t.is("NONE", LatestCoat.NONE, -1));
    }

    private static void feed(Sentences t) {
        t.test(2, "Twenty bytes come behind the TAPE", () -> {
            LatestCoat x = new LatestCoat();
            // "street 1 50 0;thing " and "6 20;painter 8 99   "
            x.feed(0x73747265, 0x65742031, 0x20353020, 0x303b7468, 0x696e6720);
            x.feed(0x36203230, 0x3b706169, 0x6e746572, 0x20382039, 0x39202020);
            t.is("both, in their order", x.street(), 6);
            t.is("the last of them", x.painter(0, 1), 99);
        });
        t.test(2, "of each number the highest first", () -> {
            for (int place = 0; place < 20; place++) {
                int[] n = {0x20202020, 0x20202020, 0x20202020, 0x20202020, 0x20202020};
                n[place / 4] |= 1 << 24 - place % 4 * 8;
                LatestCoat x = new LatestCoat();
                x.feed(n[0], n[1], n[2], n[3], n[4]);
                t.is("a ! at " + place, x.street(), Due.fault(place, Due.CANT_STAND));
            }
            LatestCoat x = new LatestCoat();
            x.feed(0x73747265, 0x65742031, 0x20353020, 0x30ffffff, -1);
            t.is("bytes of 255", x.street(), Due.fault(13, Due.CANT_STAND));
        });
        t.test(2, "how many it has", () -> {
            LatestCoat x = new LatestCoat();
            t.is("20", x.feed(0, 0, 0, 0, 0), 20);
            t.is("40", x.feed(MAX, MIN, -1, 1, 0), 40);
            x.end(7);
            t.is("27", x.feed(0, 0, 0, 0, 0), 27);
            t.is("count", x.count(15), 27);
        });
        t.test(2, "NONE, and none comes, if it would have more than 400", () -> {
            LatestCoat x = new LatestCoat();
            Due.tape(x, "street 1 50 0;thing 1 20" + " ".repeat(376));
            t.is("400 are there", x.count(15), 400);
            t.is("420", x.feed(0, 0, 0, 0, 0), -1);
            t.is("none came", x.count(15), 400);
            x.end(381);
            t.is("401", x.feed(0, 0, 0, 0, 0), -1);
            t.is("none came again", x.count(15), 381);
            t.is("the text is as it was", x.street(), 1);
            Due.tape(x, " ".repeat(380));
            t.is("exactly 400", x.feed(0x20202020, 0x20202020, 0x20202020, 0x20202020, 0x20202020), 400);
            t.is("all of them are read", x.street(), Due.fault(400, Due.CANT_STAND));
        });
    }

    private static void end(Sentences t) {
        t.test(3, "The TAPE has its first n bytes alone: n", () -> {
            LatestCoat x = new LatestCoat();
            Due.tape(x, "street 1 50 0;thing 3 20");
            t.is("all it has", x.end(24), 24);
            t.is("13", x.end(13), 13);
            t.is("so many are there", x.count(15), 13);
            t.is("the first ones", x.street(), 0);
            Due.tape(x, "street 1 50 0;thing");
            t.is("0", x.end(0), 0);
            t.is("0 of none", x.end(0), 0);
            t.is("nothing is there", x.count(15), 0);
            Due.tape(x, "street 1 50 1;thing");
            x.end(13);
            x.feed(0x3b737569, 0x74202020, 0x20202020, 0x20202020, 0x20202020);
            t.is("what was cut off is not there again", x.street(), 0);
            t.is("what came behind it is", x.count(6), 1);
            Due.tape(x, "street 1 50 0;suits");
            x.end(18);
            t.is("cut within a word", x.street(), 0);
            Due.tape(x, "street 1 50 10");
            x.end(13);
            t.is("cut within a number", x.street(), 0);
            t.is("COST", x.count(2), 1);
            Due.tape(x, "paint 1 if 1<=1");
            x.end(13);
            t.is("cut within a sign", x.rule(), Due.fault(13, Due.CANT_STAND));
        });
        t.test(3, "NONE, and nothing happens, if it has not so many", () -> {
            LatestCoat x = new LatestCoat();
            t.is("1 of none", x.end(1), -1);
            x.feed(0, 0, 0, 0, 0);
            t.is("21 of 20", x.end(21), -1);
            t.is("most", x.end(MAX), -1);
            t.is("20 are there", x.count(15), 20);
            x.end(5);
            t.is("what was cut off does not count", x.end(6), -1);
            t.is("5 are there", x.count(15), 5);
        });
        t.test(3, "or n is below 0", () -> {
            LatestCoat x = new LatestCoat();
            x.feed(0, 0, 0, 0, 0);
            t.is("-1", x.end(-1), -1);
            t.is("least", x.end(MIN), -1);
            t.is("20 are there", x.count(15), 20);
        });
    }

    private static void street(Sentences t) {
        String first = "street 9 100 9;thing 2 1;thing 1 1;painter 1 5;painter 7 5;coat 0 0;coat 2 1;bare 1;rain 0 9;suit";
        t.test(4, "The TAPE, which is empty then, is the STREET in place of the one there was", () -> {
            LatestCoat x = Due.on(first);
            t.is("the tape", x.count(15), 0);
            Due.street(x, "street 1 1 0;thing 3 2;painter 3 7");
            t.is("the tape", x.count(15), 0);
            int[] want = {1, 1, 0, 1, 3, 1, 0};
            for (int what = 0; what < want.length; what++) {
                t.is("count " + what, x.count(what), want[what]);
            }
            t.is("no coats", x.cell(0, 1), 0);
            t.is("none bare", x.count(11), 0);
            t.is("no rain", x.rain(0), 0);
            t.is("colour", x.painter(0, 0), 3);
            t.is("purse", x.painter(0, 1), 7);
            t.is("no second painter", x.painter(1, 0), -1);
            t.is("no second thing", x.thing(1, 0), -2);
        });
        t.test(4, "no LOGS, nothing to be UNDONE", () -> {
            LatestCoat x = Due.on(first);
            x.log(0, 0, 0);
            x.hour();
            Due.street(x, first);
            t.is("logs", x.count(12), 0);
            t.is("acts", x.count(13), 0);
            t.is("undo", x.undo(), -2);
        });
        t.test(4, "the RULE IN FORCE and x stay", () -> {
            LatestCoat x = Due.on(first);
            Due.rule(x, "paint 1");
            Due.rule(x, "paint 2");
            x.force(1);
            x.seed(MAX);
            Due.street(x, first);
            t.is("in force", x.count(8), 1);
            t.is("x", x.count(14), MAX);
            t.is("rules", x.count(7), 2);
        });
        t.test(4, "how many CELLS", () -> {
            t.street("street 1 50 0", 0);
            t.street("street 1 50 0;thing 1 0", 1);
            t.street("street 1 50 0;thing 4 0;thing 6 0;thing 6 0", 16);
        });
        t.test(4, "-2 - its FAULT, and all stays.", () -> {
            LatestCoat x = Due.on(first);
            Due.rule(x, "paint 1");
            x.force(0);
            x.seed(3);
            x.log(0, 0, 0);
            x.vote(0);
            x.hour();
            String before = Due.seen(x);
            // it goes wrong at its very end, when all else of it has been read
            t.is("the fault", Due.street(x, "street 1 1 0;thing 3 2;painter 3 7;coat 0 0;rain 5 5;bare 1"),
                Due.fault(58, Due.BAD_NUMBER));
            t.same("all", before, Due.seen(x));
            t.is("the rains", x.rain(9), 1);
            t.is("the acts", x.undo(), 1);
            t.is("the least answer", Due.street(new LatestCoat(), " ".repeat(400)), -3203);
        });
        t.test(4, "It is HOUR 0.", () -> {
            LatestCoat x = Due.on(first);
            t.is("first", x.count(9), 0);
            Due.hours(x, 3);
            Due.street(x, first);
            t.is("again", x.count(9), 0);
        });
    }

    private static void clauses(Sentences t) {
        t.test(4, "A STREET is a text of at most 400 bytes", () -> {
            LatestCoat x = t.street("street 1 50 0" + " ".repeat(369) + ";thing 6 20;suit  ", 6);
            t.is("to its end", x.count(6), 1);
            Due.tape(x, "street 1 50 0" + " ".repeat(387));
            t.is("not one more", x.feed(0x20202020, 0x20202020, 0x20202020, 0x20202020, 0x20202020), -1);
        });
        t.test(4, "CLAUSE { ; CLAUSE }, 40 at most", () -> {
            String forty = "street 1 50 0;thing 1 0;painter 1 0" + ";coat 0 0".repeat(37);
            t.street(forty, 1);
            t.streetFault(forty + ";^coat 0 0", Due.CLAUSE_TOO_MANY);
            t.streetFault(forty + ";^suit", Due.CLAUSE_TOO_MANY);
            t.streetFault("^", Due.CANT_STAND);
            t.streetFault("^;street 1 50 0", Due.CANT_STAND);
            t.streetFault("street 1 50 0;^", Due.CANT_STAND);
            t.streetFault("street 1 50 0;^;suit", Due.CANT_STAND);
            t.streetFault("street 1 50 0 ^suit", Due.CANT_STAND);
            t.streetFault(forty + ";^", Due.CANT_STAND);
        });
    }

    private static void head(Sentences t) {
        t.test(4, "street NUMBER NUMBER NUMBER (DRY 1 to 9: so many HOURS a coat is wet", () -> {
            t.streetFault("street ^0 50 0", Due.BAD_NUMBER);
            t.streetFault("street ^10 50 0", Due.BAD_NUMBER);
            for (int dry = 1; dry <= 9; dry++) {
                LatestCoat x = t.street("street " + dry + " 50 0;thing 1 0;painter 1 0", 1);
                t.is("DRY", x.count(0), dry);
                x.paint(0, 0);
                Due.hours(x, dry - 1);
                t.is("wet in the last of them", x.cell(0, 4), 1);
                x.hour();
                t.is("dry behind them", x.cell(0, 4), 0);
            }
        });
        t.test(4, "PART 1 to 100: of a hundred", () -> {
            t.streetFault("street 1 ^0 0", Due.BAD_NUMBER);
            t.streetFault("street 1 ^101 0", Due.BAD_NUMBER);
            String rest = " 0;thing 6 0;painter 1 0;coat 0 0;coat 1 0;coat 2 0;coat 3 0;coat 4 0";
            LatestCoat least = t.street("street 1 1" + rest, 6);
            t.is("1", least.count(1), 1);
            t.is("five of six are enough", least.thing(0, 3), 0);
            LatestCoat most = t.street("street 1 100" + rest, 6);
            t.is("100", most.count(1), 100);
            t.is("five of six are not", most.thing(0, 3), -1);
        });
        t.test(4, "COST of a coat 0 to 9", () -> {
            t.streetFault("street 1 50 ^10", Due.BAD_NUMBER);
            LatestCoat none = t.street("street 1 50 0;thing 1 0;painter 1 9", 1);
            none.paint(0, 0);
            t.is("0", none.painter(0, 1), 9);
            LatestCoat most = t.street("street 1 50 9;thing 1 0;painter 1 9", 1);
            most.paint(0, 0);
            t.is("9", most.painter(0, 1), 0);
        });
        t.test(4, "once, the first CLAUSE", () -> {
            t.street(" street 1 50 0", 0);
            t.streetFault("street 1 50 0;^street 1 50 0", Due.CLAUSE_TOO_MANY);
            t.streetFault("street 1 50 0;suit;^street 1 50 0", Due.CLAUSE_TOO_MANY);
            t.streetFault("^suit;street 1 50 0", Due.CLAUSE_TOO_MANY);
        });
    }

    private static void things(Sentences t) {
        t.test(4, "thing NUMBER NUMBER (its CELLS, 1 to 6", () -> {
            t.streetFault("street 1 50 0;thing ^0 0", Due.BAD_NUMBER);
            t.streetFault("street 1 50 0;thing ^7 0", Due.BAD_NUMBER);
            for (int cells = 1; cells <= 6; cells++) {
                t.is("its cells", t.street("street 1 50 0;thing " + cells + " 0", cells).thing(0, 1), cells);
            }
        });
        t.test(4, "RENT 0 to 20", () -> {
            t.streetFault("street 1 50 0;thing 1 ^21", Due.BAD_NUMBER);
            t.is("0", t.street("street 1 50 0;thing 1 0", 1).thing(0, 2), 0);
            t.is("20", t.street("street 1 50 0;thing 1 20", 1).thing(0, 2), 20);
        });
        t.test(4, "THINGS 0 to 3", () -> {
            LatestCoat none = t.street("street 1 50 0", 0);
            t.is("none", none.count(3), 0);
            t.is("no thing 0", none.thing(0, 0), -2);
            LatestCoat x = t.street("street 1 50 0;thing 1 0;thing 2 1;thing 3 2;thing 4 3", 10);
            t.is("four", x.count(3), 4);
            for (int thing = 0; thing < 4; thing++) {
                t.is("in the order told", x.thing(thing, 2), thing);
            }
            t.is("no thing 4", x.thing(4, 2), -2);
            t.streetFault("street 1 50 0;thing 1 0;thing 2 1;thing 3 2;thing 4 3;^thing 1 0", Due.CLAUSE_TOO_MANY);
        });
        t.test(4, "the CELLS of all THINGS, 16 at most", () -> {
            t.street("street 1 50 0;thing 6 0;thing 6 0;thing 3 0;thing 1 0", 16);
            t.streetFault("street 1 50 0;thing 6 0;thing 6 0;thing ^5 0", Due.BAD_NUMBER);
            t.streetFault("street 1 50 0;thing 6 0;thing 6 0;thing 3 0;thing ^2 0", Due.BAD_NUMBER);
            t.streetFault("street 1 50 0;thing 6 0;thing 6 0;thing 4 0;thing ^1 0", Due.BAD_NUMBER);
            LatestCoat x = t.street("street 1 50 0;thing 6 0;thing 6 0;thing 4 0;painter 1 0;coat 15 0", 16);
            t.is("the last cell", x.cell(15, 3), 0);
            t.is("no cell 16", x.cell(16, 0), -2);
        });
        t.test(4, "are numbered from 0 on, one THING's behind another's", () -> {
            LatestCoat x = t.street("street 1 50 0;thing 2 0;painter 1 0;thing 1 0;suit;thing 3 0", 6);
            int[] thingOf = {0, 0, 1, 2, 2, 2};
            for (int cell = 0; cell < thingOf.length; cell++) {
                t.is("thing of cell " + cell, x.cell(cell, 0), thingOf[cell]);
            }
            t.is("first of thing 0", x.thing(0, 0), 0);
            t.is("first of thing 1", x.thing(1, 0), 2);
            t.is("first of thing 2", x.thing(2, 0), 3);
        });
    }

    private static void painters(Sentences t) {
        t.test(4, "painter NUMBER NUMBER (COLOUR 0 to 8", () -> {
            t.streetFault("street 1 50 0;painter ^9 0", Due.BAD_NUMBER);
            t.is("0", t.street("street 1 50 0;painter 0 0", 0).painter(0, 0), 0);
            t.is("8", t.street("street 1 50 0;painter 8 0", 0).painter(0, 0), 8);
        });
        t.test(4, "PURSE 0 to 99", () -> {
            t.streetFault("street 1 50 0;painter 0 ^100", Due.BAD_NUMBER);
            t.is("0", t.street("street 1 50 0;painter 1 0", 0).painter(0, 1), 0);
            t.is("99", t.street("street 1 50 0;painter 1 99", 0).painter(0, 1), 99);
        });
        t.test(4, "PAINTERS 0 to 3", () -> {
            LatestCoat none = t.street("street 1 50 0", 0);
            t.is("none", none.count(5), 0);
            t.is("no painter 0", none.painter(0, 0), -1);
            LatestCoat x = t.street("street 1 50 0;painter 1 9;painter 2 8;painter 3 7;painter 4 6", 0);
            t.is("four", x.count(5), 4);
            for (int painter = 0; painter < 4; painter++) {
                t.is("in the order told", x.painter(painter, 1), 9 - painter);
            }
            t.is("no painter 4", x.painter(4, 1), -1);
            t.streetFault("street 1 50 0" + ";painter 1 0".repeat(4) + ";^painter 1 0", Due.CLAUSE_TOO_MANY);
        });
    }

    private static void coats(Sentences t) {
        t.test(4, "coat NUMBER NUMBER (a CELL, a PAINTER that were told", () -> {
            String street = "street 1 50 0;thing 2 0;painter 1 0;painter 2 0;";
            t.is("the last ones", t.street(street + "coat 1 1", 2).coat(1, 0, 0), 1);
            t.streetFault(street + "coat ^2 0", Due.BAD_NUMBER);
            t.streetFault(street + "coat 0 ^2", Due.BAD_NUMBER);
            t.streetFault(street + "coat ^2 0;thing 1 0", Due.BAD_NUMBER);
            t.streetFault(street + "coat 0 ^2;painter 1 1", Due.BAD_NUMBER);
            t.streetFault("street 1 50 0;painter 1 0;coat ^0 0", Due.BAD_NUMBER);
            t.streetFault("street 1 50 0;thing 1 0;coat 0 ^0", Due.BAD_NUMBER);
        });
        t.test(4, "a coat of it, of their COLOUR, long dry, above those told ahead", () -> {
            LatestCoat x = t.street("street 9 50 9;thing 1 0;painter 7 0;painter 3 0;coat 0 0;coat 0 1;suit", 1);
            t.is("two", x.cell(0, 1), 2);
            t.is("the last is the top", x.coat(0, 0, 0), 1);
            t.is("the first is under it", x.coat(0, 1, 0), 0);
            t.is("colour", x.coat(0, 0, 1), 3);
            t.is("colour", x.coat(0, 1, 1), 7);
            t.is("dry at once", x.cell(0, 4), 0);
            t.is("so it is owned, in suit too", x.cell(0, 2), 1);
            t.is("told", x.coat(0, 0, 2), -1);
            t.is("it takes no purse", x.painter(1, 1), 0);
            LatestCoat rained = t.street("street 9 50 0;thing 1 0;painter 7 0;coat 0 0;rain 0 0", 1);
            rained.hour();
            t.is("no rain washes it off", rained.cell(0, 1), 1);
        });
    }

    private static void bare(Sentences t) {
        t.test(4, "bare NUMBER (a THING that was told", () -> {
            t.is("the last one", t.street("street 1 50 0;thing 1 0;thing 1 0;bare 1", 2).count(11), 2);
            t.is("twice", t.street("street 1 50 0;thing 1 0;bare 0;bare 0", 1).count(11), 1);
            t.streetFault("street 1 50 0;bare ^0", Due.BAD_NUMBER);
            t.streetFault("street 1 50 0;thing 1 0;bare ^1", Due.BAD_NUMBER);
            t.streetFault("street 1 50 0;thing 1 0;bare ^1;thing 1 0", Due.BAD_NUMBER);
        });
        t.test(4, "it has no coats then, whatever is told of them", () -> {
            LatestCoat x = t.street("street 1 50 0;thing 2 0;thing 1 0;painter 1 0;coat 0 0;coat 2 0;bare 0;coat 0 0;coat 1 0", 3);
            t.is("told ahead and behind", x.cell(0, 1), 0);
            t.is("told behind", x.cell(1, 1), 0);
            t.is("of another thing", x.cell(2, 1), 1);
            t.is("its owner", x.thing(0, 3), -1);
        });
    }

    private static void rains(Sentences t) {
        t.test(4, "rain NUMBER NUMBER (the first, the last HOUR, 0 to 199", () -> {
            t.streetFault("street 1 50 0;rain ^200 200", Due.BAD_NUMBER);
            t.streetFault("street 1 50 0;rain 0 ^200", Due.BAD_NUMBER);
            LatestCoat all = t.street("street 1 50 0;rain 0 199", 0);
            t.is("0", all.rain(0), 1);
            t.is("199", all.rain(199), 1);
            t.is("200", all.rain(200), 0);
            LatestCoat some = t.street("street 1 50 0;rain 3 5", 0);
            for (int hour = 2; hour <= 6; hour++) {
                t.is("rain " + hour, some.rain(hour), hour >= 3 && hour <= 5 ? 1 : 0);
            }
        });
        t.test(4, "not below the first", () -> {
            t.streetFault("street 1 50 0;rain 1 ^0", Due.BAD_NUMBER);
            t.streetFault("street 1 50 0;rain 199 ^198", Due.BAD_NUMBER);
            LatestCoat x = t.street("street 1 50 0;rain 7 7;rain 199 199", 0);
            t.is("the same", x.rain(7), 1);
            t.is("ahead of it", x.rain(6), 0);
            t.is("behind it", x.rain(8), 0);
        });
        t.test(4, "RAINS 0 to 4, in the order told", () -> {
            LatestCoat x = t.street("street 1 50 0;rain 8 8;rain 6 6;rain 4 4;rain 2 2;rain 0 0", 0);
            for (int hour = 0; hour < 10; hour++) {
                t.is("rain " + hour, x.rain(hour), 1 - hour % 2);
            }
            t.is("none", t.street("street 1 50 0", 0).rain(0), 0);
            t.streetFault("street 1 50 0" + ";rain 1 1".repeat(5) + ";^rain 1 1", Due.CLAUSE_TOO_MANY);
        });
    }

    private static void suit(Sentences t) {
        t.test(4, "suit (a cell under a wet coat is in SUIT", () -> {
            String street = "street 2 50 0;thing 1 0;painter 1 0;painter 2 0;coat 0 1";
            LatestCoat x = t.street(street + ";suit", 1);
            t.is("suit", x.count(6), 1);
            x.paint(0, 0);
            t.is("so nobody's", x.cell(0, 2), -1);
            LatestCoat y = t.street(street, 1);
            t.is("no suit", y.count(6), 0);
            y.paint(0, 0);
            t.is("so his who was there", y.cell(0, 2), 1);
        });
        t.test(4, "once at most", () -> {
            t.streetFault("street 1 50 0;suit;^suit", Due.CLAUSE_TOO_MANY);
            t.streetFault("street 1 50 0;suit;thing 1 0;^suit", Due.CLAUSE_TOO_MANY);
            t.streetFault("street 1 50 0;suit ^1", Due.CANT_STAND);
        });
    }

    private static void faults(Sentences t) {
        t.test(4, "FAULTS, the first along the text", () -> {
            t.streetFault("street ^0 0 10;thing 0 0", Due.BAD_NUMBER);
            t.streetFault("street 1 ^0 10;;", Due.BAD_NUMBER);
            t.streetFault("street 1 50 0;thing ^7 21;suit;suit", Due.BAD_NUMBER);
            t.streetFault("street 1 50 0;^A;thing 0 0", Due.CANT_STAND);
            t.streetFault("street 1 50 0;suit;^suit;thing 0 0", Due.CLAUSE_TOO_MANY);
        });
        t.test(4, "1 + 8 * its place and", () -> {
            t.is("place 0, kind 0", Due.street(new LatestCoat(), "!"), -2 - 1);
            t.is("place 1, kind 0", Due.street(new LatestCoat(), " !"), -2 - 9);
            t.is("place 7, kind 1", Due.street(new LatestCoat(), "street 0"), -2 - (1 + 8 * 7 + 1));
            t.is("place 0, kind 4", Due.street(new LatestCoat(), "suit"), -2 - 5);
            t.is("place 399, kind 0", Due.street(new LatestCoat(), " ".repeat(399) + "!"), -2 - (1 + 8 * 399));
        });
        t.test(4, "0 a byte or WORD that can't stand there", () -> {
            t.streetFault("^Street 1 50 0", Due.CANT_STAND);
            t.streetFault("^streets 1 50 0", Due.CANT_STAND);
            t.streetFault("^stree 1 50 0", Due.CANT_STAND);
            t.streetFault("^1", Due.CANT_STAND);
            t.streetFault("street ^-1 50 0", Due.CANT_STAND);
            t.streetFault("street 1^,50 0", Due.CANT_STAND);
            t.streetFault("street 1 ^thing", Due.CANT_STAND);
            t.streetFault("street 1 50 ^;thing 1 0", Due.CANT_STAND);
            t.streetFault("street 1 50 0 ^0", Due.CANT_STAND);
            t.streetFault("street 1 50 0;^paint 1", Due.CANT_STAND);
            t.streetFault("street 1 50 0;^top", Due.CANT_STAND);
            t.streetFault("street 1 50 0;^things 1 0", Due.CANT_STAND);
            t.streetFault("^streetz 1 50 0", Due.CANT_STAND);
            t.streetFault("street ^>=1 50 0", Due.CANT_STAND);
            t.streetFault("^" + ";".repeat(400), Due.CANT_STAND);
            for (String word : "cell rent top wet whose mine owner coats purse hour paint if and or not".split(" ")) {
                t.streetFault("street 1 50 0;^" + word + " 1 1", Due.CANT_STAND);
                t.streetFault("street ^" + word, Due.CANT_STAND);
            }
            for (int sign = 0; sign < 256; sign++) {
                if ("abcdefghijklmnopqrstuvwxyz0123456789; ^".indexOf(sign) < 0) {
                    t.streetFault("^" + (char) sign + "street 1 50 0", Due.CANT_STAND);
                    t.streetFault("street ^" + (char) sign + "1 50 0", Due.CANT_STAND);
                    t.streetFault("street 1 50 0^" + (char) sign, Due.CANT_STAND);
                }
            }
            t.streetFault("street 1 50 0;thing^\t1 0", Due.CANT_STAND);
            t.streetFault("street 1 50 0^\n", Due.CANT_STAND);
            t.streetFault("street 1 50 0^\0", Due.CANT_STAND);
            t.streetFault("street 1 50 0^\u00a0", Due.CANT_STAND);
            t.streetFault("street 1 50 0;thing 1 0;coat ^;", Due.CANT_STAND);
            t.streetFault("street 1 50 0;rain 1 ^suit", Due.CANT_STAND);
            t.streetFault("street 1 50 0;bare ^bare", Due.CANT_STAND);
            t.streetFault("street 1 50 0;painter ^=1", Due.CANT_STAND);
        });
        t.test(4, "or the end (behind the last byte)", () -> {
            t.streetFault("^", Due.CANT_STAND);
            t.streetFault("   ^", Due.CANT_STAND);
            t.streetFault("street^", Due.CANT_STAND);
            t.streetFault("street 1^", Due.CANT_STAND);
            t.streetFault("street 1 50  ^", Due.CANT_STAND);
            t.streetFault("street 1 50 0;^", Due.CANT_STAND);
            t.streetFault("street 1 50 0;thing^", Due.CANT_STAND);
            t.streetFault("street 1 50 0;thing 1^", Due.CANT_STAND);
            t.streetFault("street 1 50 0;painter^", Due.CANT_STAND);
            t.streetFault("street 1 50 0;painter 1^", Due.CANT_STAND);
            t.streetFault("street 1 50 0;thing 1 0;painter 1 0;coat^", Due.CANT_STAND);
            t.streetFault("street 1 50 0;thing 1 0;painter 1 0;coat 0^", Due.CANT_STAND);
            t.streetFault("street 1 50 0;bare^", Due.CANT_STAND);
            t.streetFault("street 1 50 0;rain^", Due.CANT_STAND);
            t.streetFault("street 1 50 0;rain 0^", Due.CANT_STAND);
            t.streetFault("street 1 50 0" + " ".repeat(386) + ";^", Due.CANT_STAND);
        });
        t.test(4, "1 a NUMBER of more digits", () -> {
            t.street("street 00001 00050 00000;thing 00001 00020;painter 00008 00099;coat 00000 00000;rain 00000 00199", 1);
            t.streetFault("street ^000001 50 0", Due.BAD_NUMBER);
            t.streetFault("street 1 ^000050 0", Due.BAD_NUMBER);
            t.streetFault("street 1 50 ^000000", Due.BAD_NUMBER);
            t.streetFault("street 1 50 0;thing ^000001 1", Due.BAD_NUMBER);
            t.streetFault("street 1 50 0;thing 1 ^000001", Due.BAD_NUMBER);
            t.streetFault("street 1 50 0;painter ^000001 1", Due.BAD_NUMBER);
            t.streetFault("street 1 50 0;painter 1 ^000001", Due.BAD_NUMBER);
            t.streetFault("street 1 50 0;thing 1 0;painter 1 0;coat ^000000 0", Due.BAD_NUMBER);
            t.streetFault("street 1 50 0;thing 1 0;painter 1 0;coat 0 ^000000", Due.BAD_NUMBER);
            t.streetFault("street 1 50 0;thing 1 0;bare ^000000", Due.BAD_NUMBER);
            t.streetFault("street 1 50 0;rain ^000001 1", Due.BAD_NUMBER);
            t.streetFault("street 1 50 0;rain 0 ^000001", Due.BAD_NUMBER);
            t.streetFault("street 1 50 0;painter ^" + "0".repeat(300), Due.BAD_NUMBER);
            t.streetFault("street 1 50 0;rain 0 ^4294967296", Due.BAD_NUMBER);
        });
        t.test(4, "or not as told", () -> {
            t.streetFault("street ^99999 50 0", Due.BAD_NUMBER);
            t.streetFault("street 1 50 0;thing ^99999 0", Due.BAD_NUMBER);
            t.streetFault("street 1 50 0;thing 1 ^99999", Due.BAD_NUMBER);
            t.streetFault("street 1 50 0;painter ^99999 0", Due.BAD_NUMBER);
            t.streetFault("street 1 50 0;rain ^99999 0", Due.BAD_NUMBER);
        });
        t.test(4, "(of thing the CELLS, if there were more than 16 then)", () -> {
            t.streetFault("street 1 50 0;thing 5 0;thing 6 0;thing ^6 0", Due.BAD_NUMBER);
            t.streetFault("street 1 50 0;thing 5 0;thing 6 0;thing 5 0;thing  ^1 21", Due.BAD_NUMBER);
            t.street("street 1 50 0;thing 5 0;thing 6 0;thing 5 0", 16);
        });
    }

    private static void clauseFaults(Sentences t) {
        t.test(4, "4 one CLAUSE too many", () -> {
            String forty = "street 1 50 0;thing 1 0" + ";bare 0".repeat(38);
            t.street(forty, 1);
            t.streetFault(forty + ";^bare 0", Due.CLAUSE_TOO_MANY);
            t.streetFault(forty + ";^street", Due.CLAUSE_TOO_MANY);
            t.streetFault(forty + ";^rain 9 1", Due.CLAUSE_TOO_MANY);
        });
        t.test(4, "a second street or suit", () -> {
            t.streetFault("street 1 50 0;^street", Due.CLAUSE_TOO_MANY);
            t.streetFault("street 1 50 0;suit;^suit 7", Due.CLAUSE_TOO_MANY);
        });
        t.test(4, "another CLAUSE ahead of street", () -> {
            for (String clause : new String[] {"thing 1 0", "painter 1 0", "coat 0 0", "bare 0", "rain 1 1", "suit"}) {
                t.streetFault("^" + clause + ";street 1 50 0", Due.CLAUSE_TOO_MANY);
            }
        });
        t.test(4, "a fifth THING or PAINTER, a sixth RAIN (at its first byte)", () -> {
            t.streetFault("street 1 50 0" + ";thing 1 0".repeat(4) + ";  ^thing 0", Due.CLAUSE_TOO_MANY);
            t.streetFault("street 1 50 0" + ";painter 1 0".repeat(4) + ";^painter", Due.CLAUSE_TOO_MANY);
            t.streetFault("street 1 50 0" + ";rain 1 1".repeat(5) + "; ^rain 200", Due.CLAUSE_TOO_MANY);
            t.street("street 1 50 0" + ";thing 1 0".repeat(4) + ";painter 1 0".repeat(4) + ";rain 1 1".repeat(5) + ";suit", 4);
        });
        t.test(4, "Of one place the least.", () -> {
            String forty = "street 1 50 0;thing 1 0" + ";bare 0".repeat(38);
            t.streetFault(forty + ";^paint 0", Due.CANT_STAND);
            t.streetFault(forty + ";^7", Due.CANT_STAND);
            t.streetFault("^cell;street 1 50 0", Due.CANT_STAND);
            t.streetFault("street 1 50 0 ^123456", Due.CANT_STAND);
            t.streetFault("street 1 50 0;^123456", Due.CANT_STAND);
        });
        t.test(4, "Blanks (32) stand between as one likes.", () -> {
            t.street("street1 50 0;thing1 0;painter1 0;coat0 0;bare0;rain0 0;suit", 1);
            t.street("   street   1   50   0   ;   thing   1   0   ;   suit   ", 1);
            t.streetFault("^str eet 1 50 0", Due.CANT_STAND);
            t.streetFault("street 1 5 0 ^0", Due.CANT_STAND);
        });
    }
}
