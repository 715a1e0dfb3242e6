/** Each promise by hand: ordinary inputs, the edges that the document names, and wrong inputs. */
public final class PromisesTest {
    private static final Due DUE = new Due();
    private static final int MIN = Integer.MIN_VALUE;
    private static final int MAX = Integer.MAX_VALUE;

    private PromisesTest() {
    }

    private static void is(String what, int got, int want) {
        DUE.is(what, got, want);
    }

    public static void main(String[] args) {
        newObject();
        feedAndEnd();
        streetNumbers();
        streetFaults();
        streetInPlaceOfAnother();
        streetBareCoatsSuit();
        ruleFaults();
        ruleLimits();
        ruleNumbersAndForce();
        ruleWords();
        ruleArithmetic();
        ruleTests();
        cellAndCoat();
        suitAndOwners();
        thingAndPainter();
        rainAndWash();
        hourByRule();
        paintScrapeVote();
        undoTwenty();
        aheadAndRents();
        purseLimit();
        leastSets();
        fewestScrapes();
        whenToPaint();
        gameOfTwo();
        shareFractions();
        thenOwners();
        byPartOwners();
        oneColour();
        logsRuledLook();
        worthOfPaint();
        seedAndYears();
        counts();
        imagesAndBack();
        longRun();
        DUE.close("PromisesTest");
    }

    private static void newObject() {
        LatestCoat x = new LatestCoat();
        for (int what = 0; what < 16; what++) {
            is("1 count(" + what + ")", x.count(what), what == 8 ? -1 : 0);
        }
        is("1 street is none", x.hour(), -1);
        is("1 rain", x.rain(0), -1);
        is("1 when", x.when(), -1);
        is("1 one", x.one(), -1);
        is("1 undo", x.undo(), -2);
    }

    private static void feedAndEnd() {
        LatestCoat x = new LatestCoat();
        for (int k = 1; k <= 20; k++) {
            is("2 feed", x.feed(0, 0, 0, 0, 0), 20 * k);
        }
        is("2 feed beyond 400", x.feed(0, 0, 0, 0, 0), -1);
        is("2 tape stays", x.count(15), 400);
        is("3 end", x.end(381), 381);
        is("2 feed to 401", x.feed(0, 0, 0, 0, 0), -1);
        is("3 end again", x.end(380), 380);
        is("2 feed to 400", x.feed(0, 0, 0, 0, 0), 400);
        is("3 below 0", x.end(-1), -1);
        is("3 not so many", x.end(401), -1);
        is("3 least int", x.end(MIN), -1);
        is("3 kept", x.count(15), 400);
        is("3 all", x.end(400), 400);
        is("3 nothing left", x.end(0), 0);
        is("3 more than there are", x.end(1), -1);
        // "stre" "et 2" " 100" " 3  ": of each number the highest byte first
        x.feed(0x73747265, 0x65742032, 0x20313030, 0x20332020, 0x20202020);
        is("2 highest first", x.street(), 0);
        is("2 dry", x.count(0), 2);
        is("2 part", x.count(1), 100);
        is("2 cost", x.count(2), 3);
    }

    private static void streetNumbers() {
        LatestCoat x = new LatestCoat();
        is("4 blanks", Due.street(x, "  street2 50   1 ;thing 3  4;  painter00001 5;suit  "), 3);
        is("4 tape empty", x.count(15), 0);
        is("4 dry", x.count(0), 2);
        is("4 no blank", Due.street(x, "street 9 100 9;thing6 20;thing 6 0;thing 4 1;painter 8 99;rain 0 0;rain 199 199"), 16);
        is("4 third thing", x.thing(2, 0), 12);
        is("4 its cells", x.thing(2, 1), 4);
        is("4 no cells", Due.street(x, "street 1 1 0"), 0);
        is("4 HOUR is 0", x.count(9), 0);
    }

    private static void faultOf(String text, int place, int kind) {
        LatestCoat x = new LatestCoat();
        is("4 '" + text + "'", Due.street(x, text), Due.fault(place, kind));
        is("4 tape is empty behind a fault", x.count(15), 0);
        is("4 no street", x.hour(), -1);
    }

    private static void streetFaults() {
        faultOf("", 0, Due.CANT_STAND);
        faultOf("   ", 3, Due.CANT_STAND);
        faultOf("  bogus", 2, Due.CANT_STAND);
        faultOf("street", 6, Due.CANT_STAND);
        faultOf("street 1 1  ", 12, Due.CANT_STAND);
        faultOf("street 1 1 0;", 13, Due.CANT_STAND);
        faultOf("street 1 1 0;;", 13, Due.CANT_STAND);
        faultOf("street 1 1 0 thing 1 1", 13, Due.CANT_STAND);
        faultOf("street 1 1 0 1", 13, Due.CANT_STAND);
        faultOf("Street 1 1 0", 0, Due.CANT_STAND);
        faultOf("street 1 1 0;paint 1", 13, Due.CANT_STAND);
        faultOf("street 1 1 0;cell 1", 13, Due.CANT_STAND);
        faultOf("street 1 thing", 9, Due.CANT_STAND);
        faultOf("street -1 1 0", 7, Due.CANT_STAND);
        faultOf("street\t1 1 0", 6, Due.CANT_STAND);
        faultOf("street 1 1 0\u00e9", 12, Due.CANT_STAND);
        faultOf("street 1 1 0;suit 1", 18, Due.CANT_STAND);
        faultOf("street 10 1 0", 7, Due.BAD_NUMBER);
        faultOf("street 000001 1 0", 7, Due.BAD_NUMBER);
        faultOf("street 1 0 0", 9, Due.BAD_NUMBER);
        faultOf("street 1 101 0", 9, Due.BAD_NUMBER);
        faultOf("street 1 1 10", 11, Due.BAD_NUMBER);
        faultOf("street 1 1 0;thing 0 0", 19, Due.BAD_NUMBER);
        faultOf("street 1 1 0;painter 0 100", 23, Due.BAD_NUMBER);
        faultOf("street 1 1 0;rain 200 200", 18, Due.BAD_NUMBER);
        faultOf("street 1 1 0;rain 5 200", 20, Due.BAD_NUMBER);
        faultOf("street 1 1 0;rain 5 4", 20, Due.BAD_NUMBER);
        faultOf("street 1 1 0;thing 1 1;coat 1 0;painter 1 1", 28, Due.BAD_NUMBER);
        faultOf("street 1 1 0;thing 1 1;coat 0 0;painter 1 1", 30, Due.BAD_NUMBER);
        faultOf("street 1 1 0;thing 1 1;bare 1", 28, Due.BAD_NUMBER);
        faultOf("street 1 1 0;thing 6 0;thing 6 0;thing 4 0;thing 1 0", 49, Due.BAD_NUMBER);
        faultOf("thing 1 1;street 1 1 0", 0, Due.CLAUSE_TOO_MANY);
        faultOf(" suit", 1, Due.CLAUSE_TOO_MANY);
        faultOf("street 1 1 0; street 9", 14, Due.CLAUSE_TOO_MANY);
        faultOf("street 1 1 0;suit;suit", 18, Due.CLAUSE_TOO_MANY);
        faultOf("street 1 1 0" + ";thing 1 0".repeat(5), 12 + 40 + 1, Due.CLAUSE_TOO_MANY);
        faultOf("street 1 1 0" + ";painter 1 0".repeat(5), 12 + 48 + 1, Due.CLAUSE_TOO_MANY);
        faultOf("street 1 1 0" + ";rain 1 1".repeat(6), 12 + 45 + 1, Due.CLAUSE_TOO_MANY);
        faultOf("street 1 1 0;thing 1 0" + ";bare 0".repeat(39), 22 + 38 * 7 + 1, Due.CLAUSE_TOO_MANY);
        faultOf("street 1 1 0;thing 1 0" + ";bare 0".repeat(38) + ";oh", 22 + 38 * 7 + 1, Due.CANT_STAND);
        LatestCoat x = new LatestCoat();
        is("4 forty clauses", Due.street(x, "street 1 1 0;thing 1 0" + ";bare 0".repeat(38)), 1);
    }

    private static void streetInPlaceOfAnother() {
        LatestCoat x = Due.on("street 1 50 0;thing 2 1;painter 1 5;coat 0 0");
        Due.rule(x, "paint 1");
        x.force(0);
        x.seed(77);
        x.hour();
        x.log(0, 0, -1);
        is("4 a fault", Due.street(x, "street"), Due.fault(6, 0));
        is("4 all stays: hour", x.count(9), 1);
        is("4 all stays: logs", x.count(12), 1);
        is("4 all stays: undo", x.count(13), 1);
        is("4 all stays: coats", x.cell(0, 1), 2);
        is("4 another", Due.street(x, "street 2 50 0;thing 1 1;painter 3 7"), 1);
        is("4 no logs", x.count(12), 0);
        is("4 nothing undone", x.undo(), -2);
        is("4 in force stays", x.count(8), 0);
        is("4 x stays", x.count(14), 77);
        is("4 hour 0", x.count(9), 0);
        is("4 coats new", x.cell(0, 1), 0);
        is("4 purse new", x.painter(0, 1), 7);
    }

    private static void streetBareCoatsSuit() {
        LatestCoat x = Due.on("street 1 50 0;thing 1 1;thing 1 1;painter 1 5;painter 2 5;coat 0 0;bare 0;coat 0 1"
            + ";coat 1 0;coat 1 1;coat 1 1;coat 1 1;coat 1 1;coat 1 0");
        is("4 bare: no coats", x.cell(0, 1), 0);
        is("4 bare", x.thing(0, 4), 1);
        is("4 five coats", x.cell(1, 1), 5);
        is("4 the last told is the top", x.coat(1, 0, 0), 0);
        is("4 the lowest went", x.coat(1, 4, 0), 1);
        is("4 told, so dry", x.cell(1, 4), 0);
        is("4 no suit", x.count(6), 0);
        is("4 bare paint", x.paint(0, 0), -1);
    }

    private static void ruleFault(String text, int place, int kind) {
        LatestCoat x = new LatestCoat();
        is("5 '" + text + "'", Due.rule(x, text), Due.fault(place, kind));
        is("5 tape is empty behind a fault", x.count(15), 0);
        is("5 no rule", x.count(7), 0);
    }

    private static void ruleFaults() {
        ruleFault("", 0, Due.CANT_STAND);
        ruleFault("paint ", 6, Due.CANT_STAND);
        ruleFault("print 1", 0, Due.CANT_STAND);
        ruleFault("street 1 1 0", 0, Due.CANT_STAND);
        ruleFault("paint -1", 6, Due.CANT_STAND);
        ruleFault("paint coat", 6, Due.CANT_STAND);
        ruleFault("paint topz", 6, Due.CANT_STAND);
        ruleFault("paint atop", 6, Due.CANT_STAND);
        ruleFault(";".repeat(400), 0, Due.CANT_STAND);
        ruleFault("paint 1" + " ".repeat(392) + "+", 400, Due.CANT_STAND);
        ruleFault("paint 1 1", 8, Due.CANT_STAND);
        ruleFault("paint 1 top", 8, Due.CANT_STAND);
        ruleFault("paint 1+", 8, Due.CANT_STAND);
        ruleFault("paint 1++1", 8, Due.CANT_STAND);
        ruleFault("paint (1)", 6, Due.CANT_STAND);
        ruleFault("paint [1]", 6, Due.CANT_STAND);
        ruleFault("paint not", 6, Due.CANT_STAND);
        ruleFault("paint 1 if 1", 12, Due.CANT_STAND);
        ruleFault("paint 1 if 1<", 13, Due.CANT_STAND);
        ruleFault("paint 1 if 1< =2", 14, Due.CANT_STAND);
        ruleFault("paint 1 if 1=<2", 13, Due.CANT_STAND);
        ruleFault("paint 1 if 1==2", 13, Due.CANT_STAND);
        ruleFault("paint 1 if 1<2<3", 14, Due.CANT_STAND);
        ruleFault("paint 1 if 1<2 and", 18, Due.CANT_STAND);
        ruleFault("paint 1 if 1<2 if 1<2", 15, Due.CANT_STAND);
        ruleFault("paint 1 if [1<2", 15, Due.CANT_STAND);
        ruleFault("paint 1 if [1<2;paint 1", 15, Due.CANT_STAND);
        ruleFault("paint 1 if [1]<2", 13, Due.CANT_STAND);
        ruleFault("paint 1 if [1<2]=1", 16, Due.CANT_STAND);
        ruleFault("paint 1 if not", 14, Due.CANT_STAND);
        ruleFault("paint 1 if notwet=1", 11, Due.CANT_STAND);
        ruleFault("paint 1;", 8, Due.CANT_STAND);
        ruleFault("paint 1 and 1<2", 8, Due.CANT_STAND);
        ruleFault("paint 123456", 6, Due.BAD_NUMBER);
        ruleFault("paint top+000000 if", 10, Due.BAD_NUMBER);
    }

    private static void ruleLimits() {
        ruleFault("paint 1 if " + "[".repeat(11) + "1=1", 21, Due.TOO_DEEP);
        ruleFault("paint 1 if " + "not ".repeat(11) + "1=1", 51, Due.TOO_DEEP);
        ruleFault("paint 1 if " + "not[".repeat(5) + " not 1=1" + "]".repeat(5), 32, Due.TOO_DEEP);
        LatestCoat x = new LatestCoat();
        is("5 ten deep", Due.rule(x, "paint 1 if " + "[".repeat(10) + "1=1" + "]".repeat(10) + "or " + "not ".repeat(10) + "1=1"), 0);
        is("5 ten deep mixed", Due.rule(x, "paint 1 if " + "not[".repeat(5) + "1=1" + "]".repeat(5)), 1);
        String sixty = "1" + "+1".repeat(59);
        is("5 sixty values", Due.rule(x, "paint " + sixty), 2);
        ruleFault("paint " + sixty + "+1", 6 + 120, Due.VALUE_TOO_MANY);
        ruleFault("paint " + sixty + "+123456", 6 + 120, Due.BAD_NUMBER);
        ruleFault("paint " + sixty + "+tops", 6 + 120, Due.CANT_STAND);
        ruleFault("paint " + sixty + ";paint 1", 6 + 119 + 7, Due.VALUE_TOO_MANY);
        // 57 values, then value, sign, value: 60; with one more the second value is the 61st
        String fiftySeven = "1" + "+1".repeat(56);
        is("5 facts count", Due.rule(x, "paint " + fiftySeven + " if 1<=1"), 3);
        ruleFault("paint " + fiftySeven + "+1 if 1<=1", 6 + 115 + 7, Due.VALUE_TOO_MANY);
        ruleFault("paint " + fiftySeven + "+1+1 if 1<=1", 6 + 117 + 5, Due.VALUE_TOO_MANY);
        is("5 brackets and not don't count", Due.rule(x, "paint " + fiftySeven + " if not [not [1<=1]]"), 4);
        String twelve = "paint 1" + ";paint 1".repeat(11);
        ruleFault(twelve + "; paint 1", 12 * 8 + 1, Due.CLAUSE_TOO_MANY);
        ruleFault(twelve + ";pain 1", 12 * 8, Due.CANT_STAND);
        is("5 twelve clauses", Due.rule(x, twelve), 5);
        Due.tape(x, "paint 2");
        is("5 there are 6", x.rule(), -1);
        is("5 nothing happens", x.count(15), 7);
        is("5 six", x.count(7), 6);
    }

    private static void ruleNumbersAndForce() {
        LatestCoat x = new LatestCoat();
        is("6 none such", x.force(0), -2);
        is("5 first", Due.rule(x, "paint1"), 0);
        is("5 tape empty", x.count(15), 0);
        is("5 second", Due.rule(x, "paint 2if1<2and 3<4or wet=1"), 1);
        is("6 none was", x.force(1), -1);
        is("6 1 was", x.force(0), 1);
        is("6 none such", x.force(2), -2);
        is("6 below", x.force(-2), -2);
        is("6 least", x.force(MIN), -2);
        is("6 stays", x.count(8), 0);
        is("6 none", x.force(-1), 0);
        is("6 none is", x.count(8), -1);
    }

    /** Which cell painter 1 paints in one hour on a street with all kinds of cells. */
    private static int chosen(String rule, int hours) {
        LatestCoat x = Due.on("street 3 50 2;thing 3 4;thing 2 9;painter 1 1;painter 2 30;"
            + "coat 0 0;coat 1 1;coat 1 0;coat 1 1;coat 3 0;coat 4 0;rain 2 2");
        x.paint(2, 1);
        for (int k = 0; k < hours; k++) {
            x.hour();
        }
        is("5 the rule of a test", Due.rule(x, rule), 0);
        x.force(0);
        x.hour();
        int which = -1;
        for (int cell = 0; cell < 5; cell++) {
            if (x.coat(cell, 0, 0) == 1 && x.coat(cell, 0, 2) == hours) {
                which = which == -1 || cell != 2 ? cell : which;
            }
        }
        return which;
    }

    private static void ruleWords() {
        is("5 cell", chosen("paint cell if cell<4", 1), 3);
        is("5 thing and rent", chosen("paint rent-thing", 1), 3);
        is("5 top none", chosen("paint 1 if top=0-1", 2), -1);
        is("5 top", chosen("paint cell if top=0", 1), 4);
        is("5 top wet", chosen("paint 1 if top=1 and wet=1", 1), 2);
        is("5 wet dry", chosen("paint 5-cell if wet=0 and top=1", 1), 1);
        is("5 whose none", chosen("paint 1 if whose<0", 1), 2);
        is("5 whose", chosen("paint cell if whose=1", 1), 1);
        is("5 mine", chosen("paint mine", 1), 0);
        is("5 owner none", chosen("paint cell if owner=0-1", 1), 2);
        is("5 owner", chosen("paint 9-cell if owner=0", 1), 3);
        is("5 coats", chosen("paint coats", 1), 1);
        is("5 purse", chosen("paint 1 if purse=28", 1), 0);
        is("5 purse not", chosen("paint 1 if purse=30", 1), -1);
        is("5 hour", chosen("paint 1 if hour=1", 1), 0);
        is("5 hour not", chosen("paint 1 if hour=0", 1), -1);
        is("5 rain not", chosen("paint 1 if rain=1", 1), -1);
        is("5 painter", chosen("paint painter*cell", 1), 4);
        is("5 painter 1 alone", chosen("paint 1-painter", 1), -1);
    }

    private static int firstPainted(String sum) {
        LatestCoat x = Due.on("street 1 50 0;thing 4 1;painter 1 0");
        is("5 a sum", Due.rule(x, "paint " + sum), 0);
        x.force(0);
        x.hour();
        int which = -1;
        for (int cell = 3; cell >= 0; cell--) {
            which = x.cell(cell, 1) > 0 ? cell : which;
        }
        return which;
    }

    private static void ruleArithmetic() {
        is("5 times ahead of plus", firstPainted("7 if 1+2*3=7"), 0);
        is("5 from the left", firstPainted("7 if 10-3-2=5 and 20/5*2=8 and 17%10/2=3"), 0);
        is("5 / by 0", firstPainted("7 if 5/0=0 and 5%0=0 and 5/painter=0 and 5%painter=0"), 0);
    }

    private static void ruleTests() {
        is("5 / below 0", firstPainted("7 if 0-7/2=0-3 and top*7/2=0-3 and top*7%4=0-3"), 0);
        is("5 64 bits", firstPainted("7 if 99999*99999*99999*99999>0 or 1=1"), 0);
        // 65536 four times is 2 to the 64th, which is 0; half of it is the least number
        is("5 goes round", firstPainted("7 if 65536*65536*65536*65536=0 and 65536*65536*65536*32768<0"), 0);
        is("5 least by -1", firstPainted("7 if 65536*65536*65536*32768/top<0 and 65536*65536*65536*32768%top=0"), 0);
        is("5 and ahead of or", firstPainted("7 if 1=1 or 1=1 and 1=2"), 0);
        is("5 brackets", firstPainted("7 if [1=1 or 1=1] and 1=2"), -1);
        is("5 not binds one fact", firstPainted("7 if not 1=2 and 1=1"), 0);
        is("5 not not", firstPainted("7 if not not 1=2"), -1);
        is("5 not of brackets", firstPainted("7 if not [1=1 and 1=2]"), 0);
        is("5 signs", firstPainted("7 if 1<2 and 2<=2 and 2=2 and 2>=2 and 3>2"), 0);
        is("5 signs not", firstPainted("7 if 2<2 or 3<=2 or 1=2 or 1>=2 or 2>2"), -1);
        is("5 first clause whose test holds", firstPainted("cell if 1=2;paint 3-cell if 1=1;paint cell"), 0);
        is("5 none holds", firstPainted("1 if 1=2;paint 1 if 2=1"), -1);
        is("5 a first that holds hides the others", firstPainted("0 if cell=0;paint 1 if cell>1"), 2);
        is("5 of several the first", firstPainted("cell%2"), 1);
        is("5 not above 0", firstPainted("0"), -1);
        is("5 below 0", firstPainted("cell-9"), -1);
    }

    private static void cellAndCoat() {
        LatestCoat x = Due.on("street 2 50 0;thing 1 1;thing 2 1;painter 5 9;painter 6 9;coat 1 0;coat 1 1");
        is("7 thing", x.cell(2, 0), 1);
        is("7 coats", x.cell(1, 1), 2);
        is("7 owner", x.cell(1, 2), 1);
        is("7 nobody", x.cell(0, 2), -1);
        is("7 no top", x.cell(0, 3), -1);
        is("7 no top is not wet", x.cell(0, 4), 0);
        x.hour();
        x.paint(1, 0);
        is("7 top", x.cell(1, 3), 0);
        is("7 wet", x.cell(1, 4), 1);
        is("7 owner under wet", x.cell(1, 2), 1);
        x.hour();
        is("7 still wet", x.cell(1, 4), 1);
        x.hour();
        is("7 dry now", x.cell(1, 4), 0);
        is("7 owner", x.cell(1, 2), 0);
        for (int bad : new int[] {-1, 3, MIN, MAX}) {
            is("7 no cell", x.cell(bad, 0), -2);
            is("8 no cell", x.coat(bad, 0, 0), -2);
        }
        is("7 what", x.cell(0, 5), -2);
        is("7 what", x.cell(0, -1), -2);
        is("8 painter", x.coat(1, 0, 0), 0);
        is("8 colour", x.coat(1, 0, 1), 5);
        is("8 hour", x.coat(1, 0, 2), 1);
        is("8 under it", x.coat(1, 1, 0), 1);
        is("8 colour under it", x.coat(1, 1, 1), 6);
        is("8 told", x.coat(1, 1, 2), -1);
        is("8 told too", x.coat(1, 2, 0), 0);
        is("8 no more", x.coat(1, 3, 0), -2);
        is("8 k", x.coat(1, -1, 0), -2);
        is("8 k", x.coat(1, MAX, 0), -2);
        is("8 what", x.coat(1, 0, 3), -2);
        is("8 what", x.coat(1, 0, -1), -2);
        is("8 no coats", x.coat(0, 0, 0), -2);
    }

    private static void suitAndOwners() {
        String street = "street 2 50 0;thing 2 1;painter 1 9;painter 2 9;coat 0 0;coat 1 1";
        LatestCoat x = Due.on(street + ";suit");
        is("II a tie is nobody's", x.thing(0, 3), -1);
        x.paint(1, 0);
        is("II in suit", x.cell(1, 2), -1);
        is("II so the other has more", x.thing(0, 3), 0);
        LatestCoat y = Due.on(street);
        y.paint(1, 0);
        is("II no suit", y.cell(1, 2), 1);
        // a sixth coat takes the only dry one
        for (int k = 0; k < 4; k++) {
            y.paint(1, 0);
        }
        is("II five", y.cell(1, 1), 5);
        is("II no dry coat", y.cell(1, 2), -1);
    }

    private static void thingAndPainter() {
        LatestCoat x = Due.on("street 2 67 0;thing 3 4;thing 2 20;thing 1 0;painter 5 9;painter 6 99;"
            + "coat 0 0;coat 1 0;coat 2 1;coat 3 1;coat 4 1;bare 2");
        is("9 first", x.thing(1, 0), 3);
        is("9 cells", x.thing(0, 1), 3);
        is("9 rent", x.thing(1, 2), 20);
        is("9 not enough", x.thing(0, 3), -1);
        is("9 owner", x.thing(1, 3), 1);
        is("9 bare's owner", x.thing(2, 3), -1);
        is("9 bare", x.thing(2, 4), 1);
        is("9 not bare", x.thing(1, 4), 0);
        is("9 what", x.thing(0, 5), -2);
        is("9 what", x.thing(0, -1), -2);
        is("10 colour", x.painter(1, 0), 6);
        is("10 purse", x.painter(1, 1), 99);
        is("10 cells", x.painter(1, 2), 4 + 8 + 16);
        is("10 cells", x.painter(0, 2), 3);
        is("10 things", x.painter(1, 3), 2);
        is("10 no things", x.painter(0, 3), 0);
        is("10 what", x.painter(0, 4), -1);
        is("10 what", x.painter(0, -1), -1);
        for (int bad : new int[] {-1, 3, MIN, MAX}) {
            is("9 no thing", x.thing(bad, 0), -2);
            is("10 no painter", x.painter(bad, 0), -1);
        }
    }

    private static void rainAndWash() {
        LatestCoat x = Due.on("street 2 50 0;thing 2 4;painter 1 9;coat 0 0;rain 2 3;rain 199 199");
        int[] rainy = {2, 3, 199};
        int[] not = {0, 1, 4, 198, 200, MAX};
        for (int hour : rainy) {
            is("11 rain " + hour, x.rain(hour), 1);
        }
        for (int hour : not) {
            is("11 rain " + hour, x.rain(hour), 0);
        }
        is("11 below 0", x.rain(-1), -1);
        is("11 least", x.rain(MIN), -1);
        x.paint(0, 0);
        x.hour();
        x.paint(0, 0);
        x.paint(1, 0);
        x.hour();
        x.paint(1, 0);
        is("12 in rain", x.hour(), 0);
        is("12 told and dry are left", x.cell(0, 1), 2);
        is("12 wet ones of this and an earlier hour are washed", x.cell(1, 1), 0);
        is("12 hour", x.count(9), 3);
    }

    private static void hourByRule() {
        LatestCoat x = Due.on("street 1 50 2;thing 2 4;thing 1 1;painter 1 5;painter 2 3;painter 3 1;bare 1");
        Due.rule(x, "paint 9 if thing=1;paint 3-coats");
        is("12 without a rule", x.hour(), 0);
        x.force(0);
        is("12 each by numbers, as all is then", x.hour(), 2);
        is("12 the first painter took the first cell", x.coat(0, 0, 0), 0);
        is("12 the second saw it", x.coat(1, 0, 0), 1);
        is("12 the third had not COST", x.painter(2, 1), 1);
        is("12 COST", x.painter(0, 1), 3);
        is("12 COST", x.painter(1, 1), 1);
        is("12 again, one has COST", x.hour(), 1);
        is("12 hour", x.count(9), 3);
        is("12 nobody has", x.hour(), 0);
        for (int k = 4; k < 12; k++) {
            x.hour();
        }
        is("12 noon, a tie", x.painter(0, 1), 1);
        LatestCoat y = Due.on("street 1 50 0;thing 1 4;thing 1 20;painter 1 5;coat 0 0;coat 1 0");
        for (int k = 0; k < 11; k++) {
            y.hour();
        }
        is("12 ahead of noon", y.painter(0, 1), 5);
        y.hour();
        is("12 noon, two rents", y.painter(0, 1), 29);
        for (int k = 12; k < 35; k++) {
            y.hour();
        }
        is("12 ahead of 36", y.painter(0, 1), 29);
        y.hour();
        is("12 36", y.painter(0, 1), 53);
        LatestCoat z = Due.on("street 1 50 0;thing 1 4;painter 1 5");
        for (int k = 0; k < 11; k++) {
            z.hour();
        }
        z.paint(0, 0);
        z.hour();
        is("12 dry just at noon", z.painter(0, 1), 9);
    }

    private static void paintScrapeVote() {
        LatestCoat x = Due.on("street 2 50 2;thing 2 4;thing 1 1;painter 1 5;painter 2 1;coat 0 1");
        is("13 coats then", x.paint(0, 0), 2);
        is("13 COST less", x.painter(0, 1), 3);
        is("13 purse below COST", x.paint(0, 1), -1);
        is("13 again", x.paint(0, 0), 3);
        is("13 no more", x.paint(0, 0), -1);
        is("13 acts", x.count(13), 2);
        for (int bad : new int[] {-1, 4, MIN, MAX}) {
            is("13 no cell", x.paint(bad, 0), -1);
            is("13 no painter", x.paint(0, bad), -1);
            is("14 no cell", x.scrape(bad), -1);
            is("15 no thing", x.vote(bad), -1);
        }
        is("14 wet", x.scrape(0), 0);
        is("14 wet", x.scrape(0), 0);
        is("14 dry", x.scrape(0), 1);
        is("14 no more", x.scrape(0), -1);
        is("14 purse is not asked", x.painter(0, 1), 1);
        LatestCoat y = Due.on("street 2 50 0;thing 2 4;thing 1 1;painter 1 5;coat 0 0;coat 1 0;coat 2 0");
        y.paint(0, 0);
        is("15 coats that went", y.vote(0), 3);
        is("15 bare", y.count(11), 1);
        is("15 again", y.vote(0), -1);
        is("15 nothing is there", y.cell(0, 1), 0);
        is("15 the other stays", y.cell(2, 1), 1);
        is("13 bare", y.paint(0, 0), -1);
        is("14 bare", y.scrape(0), -1);
        is("15 without coats", Due.on("street 1 1 0;thing 1 0").vote(0), 0);
        LatestCoat six = Due.on("street 1 50 0;thing 1 1;painter 1 0;painter 2 0;coat 0 1");
        for (int k = 2; k <= 5; k++) {
            is("13 up to five", six.paint(0, 0), k);
        }
        is("13 of a sixth the lowest goes", six.paint(0, 0), 5);
        is("13 it went", six.coat(0, 4, 0), 0);
    }

    private static void undoTwenty() {
        LatestCoat x = Due.on("street 2 50 1;thing 2 4;painter 1 99;coat 0 0");
        Due.rule(x, "paint cell");
        for (int k = 0; k < 22; k++) {
            x.paint(1, 0);
        }
        is("16 twenty at most", x.count(13), 20);
        for (int k = 19; k >= 0; k--) {
            is("16 more can be", x.undo(), k);
            is("16 each act by itself", x.painter(0, 1), 97 - k);
        }
        is("16 none can", x.undo(), -2);
        is("16 two acts stay", x.painter(0, 1), 97);
        is("16 two coats", x.cell(1, 1), 2);
        x.force(0);
        is("16 an hour", x.hour(), 1);
        x.vote(0);
        is("16 vote undone", x.undo(), 1);
        is("16 not bare", x.thing(0, 4), 0);
        is("16 coats back", x.cell(1, 1), 3);
        is("16 hour undone", x.undo(), 0);
        is("16 hour", x.count(9), 0);
        is("16 purse", x.painter(0, 1), 97);
        is("16 in force is no act", x.count(8), 0);
        x.scrape(0);
        x.undo();
        is("16 scrape undone", x.cell(0, 1), 1);
        x.paint(9, 9);
        x.scrape(9);
        x.vote(9);
        is("16 what could not be is no act", x.undo(), -2);
    }

    private static void aheadAndRents() {
        LatestCoat x = Due.on("street 2 50 1;thing 2 4;painter 1 3;painter 2 1;coat 0 1;rain 5 5");
        Due.rule(x, "paint 2-coats if painter=0 and hour=1");
        x.force(0);
        is("17 now", x.ahead(0, 0, 0), 1);
        is("17 a tie then", x.ahead(0, 4, 0), -1);
        is("17 purse", x.ahead(0, 1, 1), 3);
        is("17 purse", x.ahead(0, 2, 1), 2);
        is("17 cell is wet", x.ahead(1, 2, 2), -1);
        is("17 who owns the cell", x.ahead(1, 3, 2), 0);
        is("17 100", x.ahead(1, 100, 2), 0);
        is("17 101", x.ahead(1, 101, 2), -2);
        is("17 -1", x.ahead(1, -1, 2), -2);
        is("17 no thing", x.ahead(1, 1, 0), -2);
        is("17 no painter", x.ahead(2, 1, 1), -2);
        is("17 no cell", x.ahead(2, 1, 2), -2);
        is("17 what", x.ahead(0, 1, 3), -2);
        is("17 what", x.ahead(0, 1, -1), -2);
        is("17 number", x.ahead(MIN, 1, 0), -2);
        is("17 nothing changes", x.count(9), 0);
        is("17 nothing changes", x.cell(1, 1), 0);
        is("18 a tie", x.rents(1, 12), 0);
        x.force(-1);
        is("18 by another rule", x.rents(1, 12), 4);
        is("18 too early", x.rents(1, 11), 0);
        is("18 four times", x.rents(1, 84), 16);
        is("18 100", x.rents(1, 100), 16);
        is("18 not his", x.rents(0, 100), 0);
        is("18 0", x.rents(1, 0), -1);
        is("18 101", x.rents(1, 101), -1);
        is("18 no painter", x.rents(2, 1), -1);
        is("18 no painter", x.rents(-1, 1), -1);
    }

    private static void purseLimit() {
        LatestCoat x = Due.on("street 1 50 0;thing 1 20;thing 1 20;thing 1 20;thing 1 20;painter 1 99;"
            + "coat 0 0;coat 1 0;coat 2 0;coat 3 0");
        for (int k = 0; k < 12 + 11 * 24; k++) {
            x.hour();
        }
        is("12 PURSE 999 at most", x.painter(0, 1), 999);
        is("18 RENT is got in full", x.rents(0, 24), 80);
        is("17 999", x.ahead(0, 24, 1), 999);
    }

    private static void leastSets() {
        LatestCoat x = Due.on("street 2 50 1;thing 4 4;thing 1 1;painter 1 0;painter 2 0;coat 0 0;coat 1 0;coat 2 1;rain 2 2");
        is("19 his already", x.least(0, 0, 0, 0), 0);
        is("19 the empty set", x.least(0, 0, 0, 1), 0);
        is("19 how many, purse not asked", x.least(1, 0, 2, 0), 1);
        is("19 the least as bits", x.least(1, 0, 2, 1), 1);
        is("19 wet yet", x.least(1, 0, 1, 0), -2);
        is("19 wet yet, set", x.least(1, 0, 1, 1), -2);
        is("19 60", x.least(1, 0, 60, 0), 1);
        is("19 61", x.least(1, 0, 61, 0), -1);
        is("19 -1", x.least(1, 0, -1, 0), -1);
        is("19 what", x.least(1, 0, 1, 2), -1);
        is("19 what", x.least(1, 0, 1, -1), -1);
        is("19 painter", x.least(2, 0, 1, 0), -1);
        is("19 thing", x.least(0, 2, 1, 0), -1);
        x.hour();
        is("19 washed", x.least(1, 0, 9, 0), -2);
        is("19 one of one", x.least(0, 1, 9, 0), -2);
        x.hour();
        x.hour();
        is("19 behind the rain", x.least(0, 1, 2, 1), 1);
        x.vote(1);
        is("19 bare", x.least(0, 1, 9, 0), -1);
        LatestCoat y = Due.on("street 2 50 1;thing 4 4;painter 1 0;painter 2 0;coat 0 0;coat 1 0;coat 2 1;coat 3 1;suit");
        is("19 in suit one wet coat is enough now", y.least(0, 0, 0, 1), 4);
        LatestCoat v = Due.on("street 2 50 0;thing 1 4;painter 1 0;painter 2 0;coat 0 0;rain 1 1;suit");
        v.paint(0, 1);
        is("19 the rain of the hour itself is yet to come", v.least(0, 0, 1, 0), -2);
        is("19 it has come", v.least(0, 0, 2, 0), 0);
        LatestCoat z = Due.on("street 1 75 1;thing 4 4;painter 1 0;coat 1 0");
        is("19 two more", z.least(0, 0, 1, 0), 2);
        is("19 cells 0 and 2", z.least(0, 0, 1, 1), 5);
        // four wet coats above a dry one of his: a sixth coat takes it
        LatestCoat w = Due.on("street 2 1 0;thing 1 4;painter 1 0;painter 2 0;coat 0 1");
        for (int k = 0; k < 4; k++) {
            w.paint(0, 1);
        }
        is("19 his under wet ones", w.least(1, 0, 0, 0), 0);
        Due.rule(w, "paint 9 if painter=0");
        w.force(0);
        is("19 no rule is asked", w.least(1, 0, 9, 0), 0);
    }

    private static void fewestScrapes() {
        LatestCoat x = Due.on("street 2 50 1;thing 3 4;thing 1 1;painter 1 9;painter 2 9;painter 3 9;"
            + "coat 0 1;coat 0 0;coat 0 0;coat 1 1;coat 1 0;coat 2 0;coat 2 1");
        is("20 his", x.fewest(0, 0, 0), 0);
        is("20 one", x.fewest(1, 0, 0), 1);
        is("20 none of the first", x.fewest(1, 0, 1), 0);
        is("20 one of the second", x.fewest(1, 0, 2), 1);
        is("20 none of the third", x.fewest(1, 0, 3), 0);
        is("20 there is no fourth", x.fewest(1, 0, 4), -2);
        is("20 no sixth", x.fewest(1, 0, 6), -2);
        is("20 7", x.fewest(1, 0, 7), -1);
        is("20 -1", x.fewest(1, 0, -1), -1);
        is("20 it can't be", x.fewest(2, 0, 0), -2);
        is("20 it can't be, row", x.fewest(2, 0, 1), -2);
        is("20 no coats", x.fewest(0, 1, 0), -2);
        is("20 painter", x.fewest(3, 0, 0), -1);
        is("20 thing", x.fewest(0, 2, 0), -1);
        is("20 nothing changes", x.cell(1, 1), 2);
        x.vote(1);
        is("20 bare", x.fewest(0, 1, 0), -2);
        StringBuilder many = new StringBuilder("street 1 16 0;thing 6 0;painter 0 0;painter 0 0;coat 3 0");
        for (int k = 0; k < 30; k++) {
            many.append(k % 6 == 3 && k > 24 ? "" : ";coat " + k % 6 + " 1");
        }
        LatestCoat full = Due.on(many.toString());
        is("20 all but one", full.fewest(0, 0, 0), 29);
        is("20 all but one of the fourth", full.fewest(0, 0, 4), 4);
        LatestCoat y = Due.on("street 1 50 0;thing 2 4;painter 1 9;painter 2 9;"
            + "coat 0 1;coat 0 0;coat 0 0;coat 1 1;coat 1 0;coat 1 0");
        is("20 both, or one and the other bare", y.fewest(1, 0, 0), 4);
        LatestCoat z = Due.on("street 1 50 0;thing 2 4;painter 1 9;painter 2 9;painter 3 9;coat 0 0;coat 0 1;coat 1 0;coat 1 1");
        is("20 his by one", z.fewest(0, 0, 0), 2);
        LatestCoat w = Due.on("street 1 50 0;thing 2 4;painter 1 9;painter 2 9;coat 0 0;coat 1 0;suit");
        w.paint(0, 1);
        w.paint(1, 1);
        is("20 a wet one of the last cell", w.fewest(0, 0, 0), 1);
        is("20 the first row", w.fewest(0, 0, 1), 0);
        is("20 the second cell", w.fewest(0, 0, 2), 1);
    }

    private static void whenToPaint() {
        LatestCoat x = Due.on("street 3 50 1;rain 0 0;rain 4 4;rain 7 9");
        is("21 behind the first rain", x.when(), 1);
        x.hour();
        is("21 dry just as it rains", x.when(), 1);
        x.hour();
        is("21 not 2 to 9", x.when(), 10);
        LatestCoat y = Due.on("street 1 50 1;rain 0 59");
        is("21 none of sixty", y.when(), -2);
        y.hour();
        is("21 the sixtieth", y.when(), 60);
        is("21 the sixtieth", Due.on("street 1 50 1;rain 0 58").when(), 59);
        is("21 no rain", Due.on("street 9 50 1").when(), 0);
    }

    private static void gameOfTwo() {
        LatestCoat x = Due.on("street 2 50 9;thing 1 1;thing 3 4;painter 1 0;painter 2 0;painter 3 0;coat 1 1;rain 2 2");
        is("22 one hour", x.game(0, 1, 1, 1, 0), 1);
        is("22 takes the other's", x.game(0, 1, 1, 1, 1), 1);
        is("22 the other answers, but it is washed", x.game(0, 1, 1, 2, 0), 1);
        is("22 so is the third hour's", x.game(0, 1, 1, 3, 0), 1);
        is("22 not the fourth hour's", x.game(0, 1, 1, 4, 0), -1);
        is("22 the third is no party", x.game(0, 2, 1, 1, 0), 1);
        is("22 the first of the best", x.game(0, 2, 1, 1, 1), 1);
        LatestCoat y = Due.on("street 2 50 0;thing 2 4;painter 1 0;painter 2 0;rain 0 9");
        is("22 all washed", y.game(0, 1, 0, 4, 0), 0);
        is("22 then none first", y.game(0, 1, 0, 4, 1), -1);
        LatestCoat z = Due.on("street 2 50 0;thing 1 4;thing 2 4;painter 1 0;painter 2 0;coat 0 0");
        is("22 none is as good", z.game(0, 1, 0, 1, 1), -1);
        is("22 the last word", z.game(0, 1, 0, 2, 0), -1);
        is("22 first of two", z.game(1, 0, 1, 1, 1), 1);
        is("22 by turns, the first has the last word", z.game(0, 1, 1, 3, 0), 1);
        is("22 by turns, the second has it", z.game(0, 1, 1, 4, 0), -1);
        is("22 alike", z.game(0, 0, 1, 1, 0), -100);
        is("22 0 hours", z.game(0, 1, 1, 0, 0), -100);
        is("22 5 hours", z.game(0, 1, 1, 5, 0), -100);
        is("22 what", z.game(0, 1, 1, 1, 2), -100);
        is("22 what", z.game(0, 1, 1, 1, -1), -100);
        is("22 painter", z.game(0, 2, 1, 1, 0), -100);
        is("22 painter", z.game(-1, 1, 1, 1, 0), -100);
        is("22 thing", z.game(0, 1, 2, 1, 0), -100);
        z.vote(1);
        is("22 bare", z.game(0, 1, 1, 1, 0), -100);
    }

    private static void shareFractions() {
        LatestCoat x = Due.on("street 1 50 0;thing 6 1;painter 1 0;painter 2 0;coat 0 0;coat 1 0;coat 2 0;coat 3 0;coat 4 1");
        is("23 above", x.share(0, 0, 0), 2);
        is("23 below", x.share(0, 0, 1), 3);
        is("23 above", x.share(1, 0, 0), 1);
        is("23 below", x.share(1, 0, 1), 6);
        x.vote(0);
        is("23 none", x.share(0, 0, 0), 0);
        is("23 of one", x.share(0, 0, 1), 1);
        is("23 part", x.share(0, 0, 2), -1);
        is("23 part", x.share(0, 0, -1), -1);
        is("23 painter", x.share(2, 0, 0), -1);
        is("23 thing", x.share(0, 1, 0), -1);
    }

    private static void thenOwners() {
        LatestCoat x = Due.on("street 2 50 0;thing 1 1;painter 1 0;painter 2 0;coat 0 0");
        x.hour();
        x.paint(0, 1);
        is("24 as told", x.then(0, 0), 0);
        is("24 this hour's coats not", x.then(0, 1), 0);
        is("24 an hour to come", x.then(0, 2), -2);
        x.hour();
        x.hour();
        is("24 still wet then", x.then(0, 2), 0);
        is("24 dry then", x.then(0, 3), 1);
        is("24 below", x.then(0, -1), -2);
        is("24 thing", x.then(1, 0), -2);
        x.scrape(0);
        is("24 by the coats that are there now", x.then(0, 3), 0);
        x.vote(0);
        is("24 bare", x.then(0, 0), -1);
        is("24 bare, hour", x.then(0, 4), -2);
        LatestCoat y = Due.on("street 2 50 0;thing 1 1;painter 1 0;coat 0 0;suit");
        y.paint(0, 0);
        y.hour();
        is("24 in suit then", y.then(0, 1), -1);
        is("24 ahead of it", y.then(0, 0), 0);
    }

    private static void byPartOwners() {
        LatestCoat x = Due.on("street 1 100 0;thing 3 1;painter 1 0;painter 2 0;coat 0 0;coat 1 0;coat 2 1");
        is("25 66", x.byPart(0, 66), 0);
        is("25 67", x.byPart(0, 67), -1);
        is("25 1", x.byPart(0, 1), 0);
        is("25 100", x.byPart(0, 100), -1);
        is("25 0", x.byPart(0, 0), -2);
        is("25 101", x.byPart(0, 101), -2);
        is("25 thing", x.byPart(1, 1), -2);
        is("25 PART is as it was", x.count(1), 100);
        x.vote(0);
        is("25 bare", x.byPart(0, 1), -1);
    }

    private static void oneColour() {
        LatestCoat x = Due.on("street 9 50 0;thing 2 1;thing 1 1;painter 4 0;painter 4 0;painter 5 0;coat 0 0;coat 1 1;coat 2 2");
        is("26 two colours", x.one(), -2);
        x.vote(1);
        is("26 two painters of one colour", x.one(), 0);
        x.paint(0, 2);
        is("26 wet ones too", x.one(), -2);
        Due.rule(x, "paint cell+1 if painter=2 and hour=99");
        x.force(0);
        is("26 the hundredth hour is not looked at", x.one(), -2);
        x.hour();
        is("26 from the next it is", x.one(), 100);
        x.vote(0);
        is("26 without such cells", x.one(), 1);
        LatestCoat y = Due.on("street 9 50 0;thing 2 1;painter 4 0;coat 0 0");
        is("26 each has one", y.one(), -2);
        is("26 no things", Due.on("street 9 50 0").one(), 0);
    }

    private static void logsRuledLook() {
        LatestCoat x = Due.on("street 1 50 0;thing 1 1;thing 1 1;painter 1 0;painter 2 0;coat 0 0");
        Due.rule(x, "paint 1 if painter=1 and cell=0 and hour=1");
        Due.rule(x, "paint 1 if painter=0 and cell=1 and hour=1");
        Due.rule(x, "paint 1 if painter=1 and cell=1 and hour=3");
        is("28 all fit", x.ruled(0), 4);
        is("28 none is the first", x.ruled(1), -1);
        is("29 all alike at 0", x.look(0, 1), 4);
        is("29 the least", x.look(0, 0), 0);
        // at 2: thing 0 parts 3 and 1, thing 1 parts 3 and 1; at 4: thing 1 parts 2, 1 and 1
        is("29 the first of two", x.look(2, 0), 0);
        is("29 three alike", x.look(2, 1), 3);
        is("29 by thing 1", x.look(4, 0), 1);
        is("29 two alike", x.look(4, 1), 2);
        is("27 nobody", x.log(4, 1, -1), 1);
        is("28 two fit", x.ruled(0), 2);
        is("28 none first", x.ruled(1), -1);
        is("29 at 2 by thing 0", x.look(2, 1), 1);
        is("27 painter", x.log(2, 0, 1), 2);
        is("28 one fits", x.ruled(0), 1);
        is("28 rule 0", x.ruled(1), 0);
        is("27 another", x.log(1, 0, 1), 3);
        is("28 none fits", x.ruled(0), 0);
        is("28 none such", x.ruled(1), -2);
        is("29 no rule is so", x.look(0, 0), -2);
        is("29 no rule is so", x.look(0, 1), -2);
        x.force(0);
        for (int k = 0; k < 5; k++) {
            x.hour();
        }
        is("27 cleared", x.log(-1, 9, 9), 0);
        is("27 cleared", x.count(12), 0);
        x.log(2, 0, 1);
        is("28 from the begin, not from now", x.ruled(1), 0);
        is("27 n", x.log(100, 0, 0), -2);
        is("27 n", x.log(-2, 0, 0), -2);
        is("27 thing", x.log(0, 2, 0), -2);
        is("27 painter", x.log(0, 0, 2), -2);
        is("27 painter", x.log(0, 0, -2), -2);
        for (int k = 2; k <= 10; k++) {
            is("27 how many", x.log(99, 0, 1), k);
        }
        is("27 there are 10", x.log(99, 0, 1), -2);
        is("28 what", x.ruled(2), -3);
        is("28 what", x.ruled(-1), -3);
        is("28 no street", new LatestCoat().ruled(0), -3);
        is("29 n", x.look(-1, 0), -1);
        is("29 n", x.look(100, 0), -1);
        is("29 99", x.look(99, 0), 0);
        is("29 what", x.look(0, 2), -1);
        is("29 what", x.look(0, -1), -1);
        is("29 no street", new LatestCoat().look(0, 0), -1);
        is("29 no things", Due.on("street 1 1 0").look(0, 0), -2);
    }

    private static void worthOfPaint() {
        LatestCoat x = Due.on("street 2 50 9;thing 1 7;thing 1 3;painter 1 0;painter 2 0;coat 0 1;coat 1 0;bare 1");
        is("30 purse not asked", x.worth(0, 0, 12), 7);
        is("30 too early", x.worth(0, 0, 11), 0);
        is("30 twice", x.worth(0, 0, 36), 14);
        is("30 his already", x.worth(0, 1, 36), 0);
        is("30 bare", x.worth(1, 0, 12), -100000);
        is("30 cell", x.worth(2, 0, 12), -100000);
        is("30 painter", x.worth(0, 2, 12), -100000);
        is("30 n", x.worth(0, 0, 0), -100000);
        is("30 n", x.worth(0, 0, 101), -100000);
        is("30 nothing changes", x.cell(0, 1), 1);
        // in suit a wet coat of his own keeps him from the rent
        LatestCoat y = Due.on("street 9 50 9;thing 1 7;painter 1 0;coat 0 0;suit");
        for (int k = 0; k < 11; k++) {
            y.hour();
        }
        is("30 below 0", y.worth(0, 0, 1), -7);
        LatestCoat z = Due.on("street 1 100 1;thing 2 7;painter 1 1;painter 2 1;coat 0 1");
        Due.rule(z, "paint 1 if painter=0 and cell=0 and hour=1");
        z.force(0);
        is("30 COST is not taken", z.worth(1, 0, 12), 7);
    }

    private static void seedAndYears() {
        LatestCoat x = Due.on("street 1 50 1;thing 2 7;painter 1 1;painter 2 2;coat 0 1;bare 0");
        is("31 was 0", x.seed(5), 0);
        is("31 was 5", x.seed(MAX), 5);
        is("31 below 0", x.seed(-1), -1);
        is("31 least", x.seed(MIN), -1);
        is("31 stays", x.count(14), MAX);
        is("31 was the most", x.seed(0), MAX);
        is("32 bare", x.years(10, 100, 0), 0);
        LatestCoat y = Due.on("street 1 50 1;thing 1 0;painter 1 1;painter 2 2");
        is("32 coats, till the purses are empty", y.years(1, 100, 0), 3);
        is("32 each time from now", y.years(4, 100, 0), 12);
        is("32 x as it was", y.count(14), 0);
        is("32 purse as it was", y.painter(0, 1), 1);
        // x becomes 12345, then 1406932606: draws 0 and 21468, so painter 0 and cell 3
        LatestCoat w = Due.on("street 1 50 1;thing 3 0;thing 2 0;painter 1 1;painter 2 0;bare 0");
        is("32 the painter first, then the cell", w.years(1, 1, 0), 1);
        // then 654583775 and 1449466924: draws 9988 and 22117, so painter 0 and cell 2, which is bare
        w.seed(1406932606);
        is("32 a cell of a bare thing", w.years(1, 1, 0), 0);
        LatestCoat z = Due.on("street 1 50 0;thing 1 7;painter 1 0");
        is("32 each hour one", z.years(3, 50, 0), 150);
        is("32 rents", z.years(3, 50, 1), 42);
        is("32 11 hours", z.years(10, 11, 1), 0);
        is("32 a rule is not asked", z.years(1, 1, 0), 1);
        is("32 0 times", z.years(0, 1, 0), -1);
        is("32 11 times", z.years(11, 1, 0), -1);
        is("32 0 hours", z.years(1, 0, 0), -1);
        is("32 101 hours", z.years(1, 101, 0), -1);
        is("32 what", z.years(1, 1, 2), -1);
        is("32 what", z.years(1, 1, -1), -1);
        is("32 no painters", Due.on("street 1 50 0;thing 1 7").years(1, 100, 0), 0);
        is("32 no cells", Due.on("street 1 50 0;painter 1 7").years(1, 100, 1), 0);
    }

    private static void counts() {
        LatestCoat x = Due.on("street 2 33 4;thing 2 1;thing 3 1;painter 1 50;suit");
        int[] want = {2, 33, 4, 2, 5, 1, 1, 0, -1, 0, 0, 0, 0, 0, 0, 0};
        for (int what = 0; what < want.length; what++) {
            is("33 count(" + what + ")", x.count(what), want[what]);
        }
        x.paint(0, 0);
        x.paint(3, 0);
        x.hour();
        x.vote(1);
        x.log(0, 0, 0);
        Due.rule(x, "paint 1");
        x.force(0);
        x.seed(9);
        x.feed(1, 2, 3, 4, 5);
        int[] later = {2, 33, 4, 2, 5, 1, 1, 1, 0, 1, 1, 2, 1, 4, 9, 20};
        for (int what = 0; what < later.length; what++) {
            is("33 later count(" + what + ")", x.count(what), later[what]);
        }
        is("33 others", x.count(16), -1);
        is("33 others", x.count(-1), -1);
        is("33 others", x.count(MIN), -1);
        is("33 others", x.count(MAX), -1);
    }

    private static void imagesAndBack() {
        LatestCoat x = new LatestCoat();
        is("34 no street", x.image(3), 0);
        Due.street(x, "street 2 50 1;thing 2 1;painter 1 50;coat 0 0");
        Due.rule(x, "paint 1");
        x.force(0);
        x.seed(4);
        x.hour();
        x.log(1, 0, 0);
        is("34 the hour", x.image(0), 1);
        x.hour();
        x.force(-1);
        x.seed(8);
        x.log(-1, 0, 0);
        x.vote(0);
        Due.rule(x, "paint 2");
        x.feed(0, 0, 0, 0, 0);
        is("34 another", x.image(1), 2);
        Due.street(x, "street 3 50 1");
        is("35 the hour", x.back(0), 1);
        is("35 the street", x.count(0), 2);
        is("35 in force", x.count(8), 0);
        is("35 logs", x.count(12), 1);
        is("35 logs are so", x.ruled(0), 3);
        is("35 x", x.count(14), 4);
        is("35 not bare", x.thing(0, 4), 0);
        is("35 purse", x.painter(0, 1), 49);
        is("35 coats", x.cell(0, 1), 2);
        is("35 rules stay", x.count(7), 2);
        is("35 undo", x.undo(), 0);
        is("35 undone", x.painter(0, 1), 50);
        is("35 again", x.back(0), 1);
        is("35 what can be undone is again", x.count(13), 1);
        is("35 the other", x.back(1), 2);
        is("35 its bare thing", x.thing(0, 4), 1);
        is("35 its undo", x.count(13), 3);
        x.feed(0, 0, 0, 0, 0);
        int bytes = x.count(15);
        is("35 no street", x.back(3), 0);
        is("35 no street", x.hour(), -1);
        is("35 the tape stays", x.count(15), bytes);
        is("35 never made", x.back(2), -1);
        for (int bad : new int[] {-1, 4, MIN, MAX}) {
            is("34 k", x.image(bad), -1);
            is("35 k", x.back(bad), -1);
        }
        is("34 made anew", x.image(0), 0);
        is("35 as made anew", x.back(0), 0);
        is("35 no street", x.count(4), 0);
    }

    /** What is answered behind the 512th call is free, but every call ends and none throws. */
    private static void longRun() {
        LatestCoat x = Due.on("street 9 50 0;thing 6 20;thing 6 1;thing 4 1;painter 1 99;painter 2 99;suit");
        Due.rule(x, "paint coats+1");
        x.force(0);
        for (int k = 0; k < 1100; k++) {
            x.hour();
        }
        is("12 at HOUR 999", x.hour(), -1);
        is("12 999 at most", x.count(9), 999);
        for (int k = 0; k < 7; k++) {
            x.paint(k, 0);
            x.game(0, 1, 0, 4, 0);
            x.least(0, 0, 60, 0);
            x.fewest(0, 0, 0);
            x.ahead(0, 100, 0);
            x.years(10, 100, 0);
            x.then(0, 999);
            x.one();
            x.when();
        }
        is("8 a coat of HOUR 999", x.coat(0, 0, 2), 999);
    }
}
