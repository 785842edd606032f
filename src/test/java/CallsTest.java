import java.math.BigInteger;
import java.util.List;

/**
 * The boundaries that the promises name, call by call: at each of them and next to it on either side. What is
 * refused is looked at again in RefusalsTest, with the state afterwards.
 */
public final class CallsTest {
    private static final int NONE = DyeLots.NONE, UNKNOWN = DyeLots.UNKNOWN, OUTSIDE = DyeLots.OUTSIDE,
            STATE = DyeLots.STATE, FULL = DyeLots.FULL;
    private static final int LOW = Integer.MIN_VALUE, HIGH = Integer.MAX_VALUE;
    private static final String[] GARMENTS = {"b5,s6;2", "b5,s6,s2;2", "b5,s6,s2,h4;2", "b5,s6,s2,h4,c9;2"};

    public static void main(String[] args) {
        newObject();
        letterByCode();
        letterUpToEighteen();
        blankOfAny();
        faultAtEachPlace();
        faultIsTheFirst();
        garmentIsTheWhole();
        garmentTakesAllAway();
        garmentOfFewerParts();
        garmentEmptiesThePage();
        aboutByNumbers();
        aboutWhatIsNot();
        asByNumbers();
        lotOfByNumbers();
        buyOneToNine();
        buyUpToForty();
        backOneToNine();
        backToTheLast();
        knitByNumbers();
        knitTellsOfAll();
        undoByNumbers();
        gaugeByNumbers();
        washWithoutAny();
        leastByNumbers();
        leastTwentyTimes();
        wantedByNumbers();
        foundByNumbers();
        foundTellsWhatWas();
        fitsAndSureByNumbers();
        yearsByNumbers();
        imageTheLatest();
        restoreNoneWasKept();
        restoreReadSince();
        countByNumbers();
        digestOfNothing();
        digestInOrder();
        Due.end();
    }

    private static void newObject() {
        Due d = new Due("1 No GARMENT");
        List<String> told = Look.at(d.x);
        for (String line : told) {
            String call = line.substring(0, line.indexOf('('));
            String answer = line.substring(line.indexOf("= ") + 2);
            int due = call.equals("count") || call.equals("fault") ? 0
                    : call.equals("fits") || call.equals("years") ? STATE : UNKNOWN;
            if (!call.equals("digest")) {
                d.is(line, Long.parseLong(answer), due);
            }
        }
    }

    private static void letterByCode() {
        for (int code = -2; code <= 300; code++) {
            Due d = new Due("2 letter, code (32 to 126)");
            boolean may = code >= 32 && code <= 126;
            d.is("letter(" + code + ")", d.x.letter(code), may ? 1 : OUTSIDE);
            d.is("count(8)", d.x.count(8), may ? 1 : 0);
            d.is("letter(112)", d.x.letter(112), may ? 2 : 1);
        }
    }

    private static void letterUpToEighteen() {
        Due d = new Due("2 letter, FULL: above 18");
        for (int round = 0; round < 2; round++) {
            for (int letters = 1; letters <= 18; letters++) {
                d.is("letter(98)", d.x.letter(98), letters);
            }
            d.is("letter(98), the 19th", d.x.letter(98), FULL);
            d.is("letter(98), the 19th again", d.x.letter(98), FULL);
            d.is("blank()", d.x.blank(), 18);
        }
    }

    private static void blankOfAny() {
        for (int letters = 0; letters <= 18; letters++) {
            Due d = new Due("3 blank");
            d.type("b".repeat(letters));
            d.is("blank() of " + letters, d.x.blank(), letters);
            d.is("count(8)", d.x.count(8), 0);
            d.is("fault()", d.x.fault(), 0);
            d.is("blank() of none", d.x.blank(), 0);
            d.is("letter(98)", d.x.letter(98), 1);
        }
    }

    private static void faultAtEachPlace() {
        for (String text : GARMENTS) {
            for (int place = 0; place < text.length(); place++) {
                Due d = new Due("4 fault");
                d.type(text.substring(0, place));
                d.is("fault(): how many letters it has, if there is none", d.x.fault(), place);
                d.type("~" + text.substring(place + 1));
                d.is("fault() of '~' at " + place, d.x.fault(), place);
                d.is("count(8): the page stays", d.x.count(8), text.length());
            }
            Due d = new Due("4 fault of a whole one");
            d.type(text);
            d.is("fault()", d.x.fault(), text.length());
            d.x.letter('0');
            d.is("fault() of one letter more", d.x.fault(), text.length());
        }
    }

    private static void faultIsTheFirst() {
        String[] texts = {"~~", "b~~", "b5~s~", "b5;2", "b5,s6;4", "b5,s6;~", "5b", "b5s", "b,5", "b5,s6;2,", "~5,s6;9",
            "b5,s6,s2,h4,c9;222", "b5,s6,s2,h4,c9,b5,s", "bbbbbbbbbbbbbbbbbb"};
        int[] due = {0, 1, 2, 2, 6, 6, 0, 2, 1, 7, 0, 16, 14, 1};
        for (int at = 0; at < texts.length; at++) {
            Due d = new Due("4 fault, the first that no GARMENT has there: " + texts[at]);
            d.type(texts[at]);
            d.is("fault()", d.x.fault(), due[at]);
        }
    }

    private static void garmentIsTheWhole() {
        for (String text : GARMENTS) {
            for (int letters = 0; letters <= text.length() + 2; letters++) {
                String page = (text + "00").substring(0, letters);
                Due d = new Due("5 garment of '" + page + "'");
                d.type(page);
                boolean is = letters == text.length();
                d.is("garment()", d.x.garment(), is ? text.length() / 3 : STATE);
                d.is("count(8)", d.x.count(8), is ? 0 : letters);
                d.is("count(9)", d.x.count(9), is ? 1 : 0);
                d.is("count(0)", d.x.count(0), is ? text.length() / 3 : 0);
            }
        }
    }

    /** Behind a garment with all that there can be, and behind one without anything, the next one is alike. */
    private static void garmentTakesAllAway() {
        for (String text : GARMENTS) {
            Due bare = Due.of("5 garment behind a bare one", "p1,p1;0");
            bare.read(text);
            Due d = Due.of("5 garment: another one is gone, with LOTS, FOUND", GARMENTS[3]);
            d.lot(3, 9);
            d.lot(20, 9);
            d.lot(0, 9);
            d.x.knit(0, 0, 1);
            d.x.knit(1, 1, 1);
            d.x.gauge(1, 9);
            d.x.found(0, 5);
            d.x.found(1, 0);
            d.x.found(3, 320);
            d.x.image();
            d.read(text);
            d.same("the next one", Look.at(d.x), Look.at(bare.x));
            d.same("the next one goes on", Look.goingOn(d.x), Look.goingOn(bare.x));
        }
    }

    private static void garmentOfFewerParts() {
        Due d = Due.of("5 garment: PARTS of another one are gone", "b9,b9,b9,b9,b9;0");
        d.read("b1,b1;0");
        d.lot(3, 1);
        d.is("least(0): no rows for PARTS that are gone", d.x.least(0), 0);
        d.is("least(11)", d.x.least(11), 0);
        d.is("least(12)", d.x.least(12), NONE);
        d.is("wanted(0, 0)", d.x.wanted(0, 0), 0);
        d.x.knit(0, 0, 0);
        d.x.knit(1, 0, 0);
        d.is("least(0) of all KNITTED", d.x.least(0), 0);
        d.is("count(3)", d.x.count(3), 2);
    }

    private static void garmentEmptiesThePage() {
        Due d = new Due("5 garment: THE PAGE is empty then");
        d.type("p1,p2;3");
        d.is("garment()", d.x.garment(), 2);
        d.is("count(8)", d.x.count(8), 0);
        d.is("garment() of an empty page", d.x.garment(), STATE);
        d.is("count(9)", d.x.count(9), 1);
        d.is("letter(112)", d.x.letter(112), 1);
        d.type("1,p2");
        d.is("garment() of p1,p2", d.x.garment(), STATE);
        d.is("count(8): it is none, and stays", d.x.count(8), 5);
        d.type(",b3;1");
        d.is("garment() of p1,p2,b3;1", d.x.garment(), 3);
        d.is("count(9)", d.x.count(9), 2);
    }

    private static void aboutByNumbers() {
        for (String text : GARMENTS) {
            Due d = Due.of("6 about, what (0 to 8) of " + text, text);
            int parts = text.length() / 3;
            for (int part : new int[] {LOW, -2, -1, 0, parts - 1, parts, parts + 1, 5, HIGH}) {
                for (int what : new int[] {LOW, -2, -1, 0, 8, 9, 10, HIGH}) {
                    boolean isPart = part >= 0 && part < parts;
                    boolean isWhat = what == 0 || what == 8;
                    int told = what == 8 ? NONE : part >= 0 && part < parts ? "pbsch".indexOf(text.charAt(3 * part)) : 0;
                    d.is("about(" + part + ", " + what + ")", d.x.about(part, what),
                            !isPart ? UNKNOWN : !isWhat ? OUTSIDE : told);
                }
            }
        }
    }

    private static void aboutWhatIsNot() {
        Due d = Due.of("6 about what is not KNITTED, alone, MIXED, the last one", "b5,s6,s2;2");
        d.lot(3, 9);
        d.lot(8, 9);
        int[][] due = {{NONE, NONE, NONE, 0, 0, NONE}, {1, NONE, 16, 0, 5, NONE}, {1, 0, 11, 0, 5, NONE}};
        for (int way = 0; way < 3; way++) {
            for (int what = 3; what <= 8; what++) {
                d.is("about(0, " + what + ") knitted in way " + way, d.x.about(0, what), due[way][what - 3]);
            }
            d.x.undo(0);
            d.x.knit(0, 1, way == 0 ? 1 : 0);
        }
        d.x.knit(2, 0, 0);
        d.is("about(0, 6): the next one is not KNITTED", d.x.about(0, 6), 0);
        d.is("about(1, 6): it is not KNITTED", d.x.about(1, 6), 0);
        d.x.knit(1, 0, 0);
        d.is("about(0, 6): both are KNITTED", d.x.about(0, 6), 5 * 3);
        d.x.undo(2);
        d.x.knit(2, 1, 1);
        d.is("about(1, 6): two SLEEVES", d.x.about(1, 6), 10 * 6);
        d.is("about(2, 6): it is the last one", d.x.about(2, 6), 0);
        d.is("about(2, 8): it is the last one", d.x.about(2, 8), NONE);
    }

    private static void asByNumbers() {
        for (String text : GARMENTS) {
            Due d = Due.of("7 as of " + text, text);
            int parts = text.length() / 3;
            for (int part : new int[] {LOW, -1, 0, parts - 1, parts, 5, HIGH}) {
                for (int kind : new int[] {LOW, -2, -1, 0, 1, 4, 5, 6, HIGH}) {
                    boolean isPart = part >= 0 && part < parts;
                    boolean isKind = kind >= 0 && kind <= 4;
                    boolean isSuch = kind == 0 || kind == 1 && part == 0 || kind == 4 && text.startsWith("h", 3 * part);
                    d.is("as(" + part + ", " + kind + ")", d.x.as(part, kind),
                            !isPart ? UNKNOWN : !isKind ? OUTSIDE : isSuch ? part : NONE);
                }
            }
        }
    }

    private static void lotOfByNumbers() {
        Due d = Due.of("9 lotOf, what (0 to 2)", "b5,s6;2");
        for (int lots = 0; lots <= 3; lots++) {
            for (int lot : new int[] {LOW, -1, 0, lots - 1, lots, 3, HIGH}) {
                for (int what : new int[] {LOW, -1, 0, 1, 2, 3, HIGH}) {
                    boolean isLot = lot >= 0 && lot < lots;
                    int told = what == 0 ? 7 + lot : what == 1 ? 1 + lot : 0;
                    d.is("lotOf(" + lot + ", " + what + ")", d.x.lotOf(lot, what),
                            !isLot ? UNKNOWN : what < 0 || what > 2 ? OUTSIDE : told);
                }
            }
            d.x.lot(7 + lots);
            d.x.buy(lots, 1 + lots);
        }
    }

    private static void buyOneToNine() {
        for (int balls : new int[] {LOW, -1, 0, 1, 2, 8, 9, 10, 11, HIGH}) {
            Due d = Due.of("10 buy, balls (1 to 9)", "b5,s6;2");
            d.lot(3, 5);
            d.lot(4, 5);
            boolean may = balls >= 1 && balls <= 9;
            d.is("buy(1, " + balls + ")", d.x.buy(1, balls), may ? 5 + balls : OUTSIDE);
            d.lotIs(1, may ? 5 + balls : 5, 0);
            d.lotIs(0, 5, 0);
            d.is("buy(2, " + balls + ")", d.x.buy(2, balls), UNKNOWN);
            d.is("buy(-1, " + balls + ")", d.x.buy(-1, balls), UNKNOWN);
        }
    }

    private static void buyUpToForty() {
        for (int there = 30; there <= 40; there++) {
            for (int balls = 1; balls <= 9; balls++) {
                Due d = Due.of("10 buy, FULL: above 40", "b1,s6;2");
                d.lot(3, there);
                boolean may = there + balls <= 40;
                d.is("buy(0, " + balls + ") with " + there, d.x.buy(0, balls), may ? there + balls : FULL);
                d.lotIs(0, may ? there + balls : there, 0);
            }
        }
        Due d = Due.of("10 buy, FULL: by BALLS of this LOT alone", "b1,s6;2");
        d.lot(3, 40);
        d.lot(3, 39);
        d.is("buy(1, 1) of another", d.x.buy(1, 1), 40);
        d.x.knit(0, 0, 0);
        d.is("buy(0, 2): LOOSE rows do not count", d.x.buy(0, 2), FULL);
        d.is("buy(0, 1): LOOSE rows do not count", d.x.buy(0, 1), 40);
    }

    private static void backOneToNine() {
        for (int balls : new int[] {LOW, -1, 0, 1, 2, 8, 9, 10, 11, HIGH}) {
            Due d = Due.of("11 back, balls (1 to 9)", "b5,s6;2");
            d.lot(3, 20);
            d.lot(4, 20);
            boolean may = balls >= 1 && balls <= 9;
            d.is("back(1, " + balls + ")", d.x.back(1, balls), may ? 20 - balls : OUTSIDE);
            d.lotIs(1, may ? 20 - balls : 20, 0);
            d.lotIs(0, 20, 0);
            d.is("back(2, " + balls + ")", d.x.back(2, balls), UNKNOWN);
            d.is("back(-1, " + balls + ")", d.x.back(-1, balls), UNKNOWN);
        }
    }

    private static void backToTheLast() {
        for (int there = 0; there <= 10; there++) {
            for (int balls = 1; balls <= 9; balls++) {
                Due d = Due.of("11 back, STATE: there are fewer", "b1,s6;2");
                d.lot(3, there);
                boolean may = balls <= there;
                d.is("back(0, " + balls + ") with " + there, d.x.back(0, balls), may ? there - balls : STATE);
                d.lotIs(0, may ? there - balls : there, 0);
            }
        }
    }

    private static void knitByNumbers() {
        int[] numbers = {LOW, -1, 0, 1, 2, 3, HIGH};
        for (int part : numbers) {
            for (int a : numbers) {
                for (int b : numbers) {
                    Due d = Due.of("12 knit, UNKNOWN: part, a, b", "b5,s6,s2;2");
                    d.lot(3, 9);
                    d.lot(4, 9);
                    boolean may = part >= 0 && part < 3 && a >= 0 && a < 2 && b >= 0 && b < 2;
                    d.is("knit(" + part + ", " + a + ", " + b + ")", d.x.knit(part, a, b), may ? 0 : UNKNOWN);
                    d.is("count(3)", d.x.count(3), may ? 1 : 0);
                    d.is("knit() again", d.x.knit(part, a, b), may ? STATE : UNKNOWN);
                    d.is("count(3) again", d.x.count(3), may ? 1 : 0);
                }
            }
        }
    }

    private static void knitTellsOfAll() {
        Due d = Due.of("12 knit: what is SEEN of all then", "b1,b1,b1,b1;0");
        d.lot(3, 9);
        d.lot(4, 9);
        d.is("knit(0): alone", d.x.knit(0, 0, 0), 0);
        d.is("knit(3): it meets nothing", d.x.knit(3, 0, 0), 0);
        d.is("knit(1): it meets one", d.x.knit(1, 1, 1), 8);
        d.is("knit(2): it meets two", d.x.knit(2, 1, 0), 8 + 4 + 4);
        d.is("count(4)", d.x.count(4), 16);
    }

    private static void undoByNumbers() {
        for (int part : new int[] {LOW, -1, 0, 1, 2, 3, 5, HIGH}) {
            Due d = Due.of("13 undo", "b5,s6,s2;2");
            d.lot(3, 9);
            d.lot(4, 9);
            boolean isPart = part >= 0 && part < 3;
            d.is("undo(" + part + ") of what is not KNITTED", d.x.undo(part), isPart ? STATE : UNKNOWN);
            d.x.knit(part, 0, 1);
            d.is("undo(" + part + ")", d.x.undo(part), isPart ? 2 : UNKNOWN);
            d.is("undo(" + part + ") again", d.x.undo(part), isPart ? STATE : UNKNOWN);
            d.is("count(3)", d.x.count(3), 0);
        }
    }

    private static void gaugeByNumbers() {
        for (int part : new int[] {LOW, -1, 0, 1, 2, 3, HIGH}) {
            for (int rows : new int[] {LOW, -1, 0, 1, 4, 5, 6, 18, 19, HIGH}) {
                Due d = Due.of("14 gauge: alone, MIXED, not KNITTED", "b5,s6,s2;2");
                d.lot(3, 9);
                d.lot(4, 9);
                d.x.knit(0, 0, 0);
                d.x.knit(1, 0, 1);
                boolean isPart = part >= 0 && part < 3;
                boolean isRows = rows >= 1 && rows <= 18;
                d.is("gauge(" + part + ", " + rows + ")", d.x.gauge(part, rows),
                        !isPart ? UNKNOWN : !isRows ? OUTSIDE : part > 0 ? STATE : rows - 5);
                d.is("about(0, 7)", d.x.about(0, 7), part == 0 && isRows ? rows : 5);
            }
        }
    }

    private static void washWithoutAny() {
        Due d = new Due("15 wash");
        d.is("wash() without a GARMENT", d.x.wash(), STATE);
        d.read("b1,b1;3");
        d.is("wash() without LOTS", d.x.wash(), 0);
        d.lot(20, 9);
        d.lot(0, 9);
        d.x.knit(0, 0, 0);
        d.is("wash() of one that is KNITTED", d.x.wash(), 0);
        d.x.knit(1, 1, 1);
        d.is("wash(): what is SEEN then, not before", d.x.wash(), (28 - 12) * 4);
        d.is("count(4)", d.x.count(4), (28 - 12) * 4);
    }

    private static void leastByNumbers() {
        for (String text : GARMENTS) {
            for (int what : new int[] {LOW, -10, -1, 0, 1, 9, 10, 11, 12, 13, 14, 15, 16, 20, HIGH}) {
                Due d = Due.of("16 least, what (0, 10 to 14) of " + text, text);
                d.lot(3, 9);
                int parts = text.length() / 3;
                boolean isWhat = what == 0 || what >= 10 && what <= 14;
                d.is("least(" + what + ")", d.x.least(what), !isWhat ? OUTSIDE : what - 10 < parts ? 0 : NONE);
                d.is("count(10)", d.x.count(10), isWhat ? 1 : 0);
            }
        }
    }

    private static void leastTwentyTimes() {
        for (int before = 0; before <= 20; before++) {
            Due d = Due.of("16 least 20 times ever, " + before + " of them before", "b1,b1;0");
            d.lot(3, 9);
            d.x.image();
            for (int times = 0; times < before; times++) {
                d.is("least(10)", d.x.least(10), 0);
            }
            d.is("least(1) is refused, and does not count", d.x.least(1), OUTSIDE);
            d.is("restore()", d.x.restore(), 0);
            d.is("count(10) behind restore()", d.x.count(10), before);
            d.read("b1,b1;0");
            d.is("count(10) of another GARMENT", d.x.count(10), before);
            for (int times = before + 1; times <= 20; times++) {
                d.is("least(0) without LOTS, time " + times, d.x.least(0), NONE);
                d.is("count(10)", d.x.count(10), times);
            }
            d.is("least(0), time 21", d.x.least(0), STATE);
            d.is("least(10), time 21", d.x.least(10), STATE);
            d.is("least(15), time 21", d.x.least(15), OUTSIDE);
            d.is("count(10)", d.x.count(10), 20);
        }
    }

    private static void wantedByNumbers() {
        for (int lots = 0; lots <= 3; lots++) {
            Due d = Due.of("17 wanted of " + lots + " LOTS", "b5,s6;2");
            for (int lot = 0; lot < lots; lot++) {
                d.lot(9, lot);
            }
            for (int lot : new int[] {LOW, -1, 0, 1, 2, 3, HIGH}) {
                for (int by : new int[] {LOW, -1, 0, 1, 2, HIGH}) {
                    boolean isLot = lot >= 0 && lot < lots;
                    d.is("wanted(" + lot + ", " + by + ")", d.x.wanted(lot, by),
                            !isLot ? UNKNOWN : by < 0 || by > 1 ? OUTSIDE : 3 - lot);
                }
            }
        }
    }

    private static void foundByNumbers() {
        for (String text : GARMENTS) {
            int parts = text.length() / 3;
            for (int part : new int[] {LOW, -1, 0, parts - 2, parts - 1, parts, 5, HIGH}) {
                for (int seen : new int[] {LOW, -101, -3, -2, -1, 0, 1, 319, 320, 321, 322, HIGH}) {
                    Due d = Due.of("18 found (the last one, too), seen (NONE, 0 to 320) of " + text, text);
                    boolean isPart = part >= 0 && part < parts - 1;
                    boolean isSeen = seen >= -1 && seen <= 320;
                    d.is("found(" + part + ", " + seen + ")", d.x.found(part, seen),
                            !isPart ? UNKNOWN : isSeen ? NONE : OUTSIDE);
                    boolean may = isPart && isSeen;
                    d.is("about(" + part + ", 8)", d.x.about(part, 8), may ? seen
                            : part >= 0 && part < parts ? NONE : UNKNOWN);
                    d.is("count(7)", d.x.count(7), may && seen != NONE ? 1 : 0);
                }
            }
        }
    }

    private static void foundTellsWhatWas() {
        Due d = Due.of("18 found: what was (NONE)", "b5,s6,s2;2");
        int[] row = {NONE, 0, 0, 320, 1, NONE, NONE, 7};
        int before = NONE;
        for (int seen : row) {
            d.is("found(1, " + seen + ")", d.x.found(1, seen), before);
            d.is("about(1, 8)", d.x.about(1, 8), seen);
            d.is("about(0, 8) of the other", d.x.about(0, 8), NONE);
            before = seen;
        }
    }

    private static void fitsAndSureByNumbers() {
        Due none = new Due("19, 20 without a GARMENT");
        none.is("fits()", none.x.fits(), STATE);
        none.is("sure(0)", none.x.sure(0), UNKNOWN);
        for (String text : GARMENTS) {
            Due d = Due.of("19, 20 of " + text, text);
            d.is("fits() without LOTS", d.x.fits(), 0);
            d.x.lot(6);
            d.is("fits()", d.x.fits(), 1);
            int parts = text.length() / 3;
            for (int part : new int[] {LOW, -1, 0, parts - 1, parts, 5, HIGH}) {
                d.is("sure(" + part + ")", d.x.sure(part), part >= 0 && part < parts ? 12 : UNKNOWN);
            }
        }
    }

    private static void yearsByNumbers() {
        for (int times : new int[] {LOW, -1, 0, 1, 2, 29, 30, 31, 32, HIGH}) {
            for (int seed : new int[] {LOW, -2, -1, 0, 1, HIGH}) {
                for (int what : new int[] {LOW, -1, 0, 1, 2, HIGH}) {
                    Due d = Due.of("21 years: times (1 to 30), seed (0 at least), what", "b5,s6;2");
                    boolean may = times >= 1 && times <= 30 && seed >= 0 && (what == 0 || what == 1);
                    String call = "years(" + times + ", " + seed + ", " + what + ")";
                    d.is(call + " without LOTS", d.x.years(times, seed, what), may ? STATE : OUTSIDE);
                    d.x.lot(4);
                    long due = seed;
                    for (int draw = 0; draw < 3 * times && may; draw++) {
                        due = (1103515245L * due + 12345L) % 2147483648L;
                    }
                    d.is(call, d.x.years(times, seed, what), !may ? OUTSIDE : what == 0 ? 0 : due);
                }
            }
        }
        Due none = new Due("21 years without a GARMENT");
        none.is("years(1, 0, 0)", none.x.years(1, 0, 0), STATE);
        none.is("years(0, 0, 0)", none.x.years(0, 0, 0), OUTSIDE);
    }

    private static void imageTheLatest() {
        Due d = new Due("22 image (one; the latest)");
        d.is("image() without a GARMENT", d.x.image(), STATE);
        d.read("b1,b1,b1,b1,b1;0");
        d.lot(3, 9);
        for (int knitted = 0; knitted <= 5; knitted++) {
            d.is("image() of " + knitted, d.x.image(), knitted);
            d.x.undo(0);
            d.is("restore() of " + knitted, d.x.restore(), knitted);
            d.is("count(3)", d.x.count(3), knitted);
            d.x.knit(knitted, 0, 0);
        }
        d.x.undo(4);
        d.is("image() of fewer", d.x.image(), 4);
        d.x.knit(4, 0, 0);
        d.is("restore() of fewer", d.x.restore(), 4);
    }

    private static void restoreNoneWasKept() {
        Due d = new Due("23 restore, STATE: none was kept");
        d.is("restore() without a GARMENT", d.x.restore(), STATE);
        d.x.image();
        d.is("restore() behind an image() that was refused", d.x.restore(), STATE);
        d.read("b1,b1;0");
        d.is("restore()", d.x.restore(), STATE);
        d.x.image();
        d.is("restore() behind image()", d.x.restore(), 0);
        d.is("restore() again", d.x.restore(), 0);
    }

    private static void restoreReadSince() {
        for (String text : new String[] {"b1,s2;0", "b1,s2,h3;1"}) {
            Due d = Due.of("23 restore, STATE: a GARMENT was read since (of the same text, too)", "b1,s2;0");
            d.lot(3, 9);
            d.x.knit(0, 0, 0);
            d.is("image()", d.x.image(), 1);
            d.type("b1,s2");
            d.is("garment() that is refused", d.x.garment(), STATE);
            d.is("restore(): none was read", d.x.restore(), 1);
            d.read(text);
            d.is("restore(): one was read", d.x.restore(), STATE);
            d.is("count(2)", d.x.count(2), 0);
            d.is("count(3)", d.x.count(3), 0);
            d.is("image() of this one", d.x.image(), 0);
            d.lot(5, 9);
            d.x.knit(1, 0, 0);
            d.is("restore() of this one", d.x.restore(), 0);
            d.is("count(2)", d.x.count(2), 0);
        }
    }

    private static void countByNumbers() {
        Due d = new Due("24 count (0 to 10)");
        for (int what : new int[] {LOW, -2, -1, 11, 12, HIGH}) {
            d.is("count(" + what + ") without a GARMENT", d.x.count(what), OUTSIDE);
        }
        d.read("b5,s6,s2;2");
        int[][] due = {{3, 2, 0, 0, 0, 0, 0, 0, 0, 1, 0}, {3, 2, 2, 0, 0, 8, 0, 0, 0, 1, 0},
            {3, 2, 2, 2, 30, 4, 5, 0, 0, 1, 0}, {3, 2, 2, 2, 30, 4, 5, 2, 3, 1, 1}};
        for (int step = 0; step < 4; step++) {
            for (int what = 0; what <= 10; what++) {
                d.is("count(" + what + ") at step " + step, d.x.count(what), due[step][what]);
            }
            d.is("count(-1)", d.x.count(-1), OUTSIDE);
            d.is("count(11)", d.x.count(11), OUTSIDE);
            if (step == 0) {
                d.lot(3, 5);
                d.lot(8, 3);
            } else if (step == 1) {
                d.x.knit(0, 0, 0);
                d.x.knit(1, 1, 1);
            } else {
                d.x.found(0, 0);
                d.x.found(1, 320);
                d.type("~~~");
                d.x.least(14);
            }
        }
    }

    /** As longs, wrapping: the rest by 2 to the 64 of what it would be without a bound. */
    private static long hashOf(long... numbers) {
        BigInteger h = BigInteger.valueOf(829);
        for (long number : numbers) {
            h = h.multiply(BigInteger.valueOf(31)).add(BigInteger.valueOf(number));
        }
        return h.longValue();
    }

    private static void digestOfNothing() {
        Due d = new Due("25 digest without a GARMENT");
        d.is("digest()", d.x.digest(), hashOf(0, 0, 0, 0, 0, 0, 0, 0, 0, 0, 0));
        d.x.letter(126);
        d.is("digest() of a letter", d.x.digest(), hashOf(126, 0, 0, 0, 0, 0, 0, 0, 0, 1, 0, 0));
        d.x.letter(32);
        d.is("digest() of two", d.x.digest(), hashOf(126, 32, 0, 0, 0, 0, 0, 0, 0, 0, 2, 0, 0));
        d.x.blank();
        d.is("digest() of none any more", d.x.digest(), hashOf(0, 0, 0, 0, 0, 0, 0, 0, 0, 0, 0));
    }

    private static void digestInOrder() {
        Due d = Due.of("25 digest, each number in order", "b3,h9;1");
        d.is("digest() without LOTS", d.x.digest(), hashOf(
                1, 3, 4, -1, -1, -1, 0, 0, -1, -1,
                4, 9, 0, -1, -1, -1, 0, 0, -1, -1,
                0,
                2, 1, 0, 0, 0, 0, 0, 0, 0, 1, 0));
        d.lot(20, 2);
        d.x.letter('b');
        d.is("digest() of one LOT", d.x.digest(), hashOf(
                1, 3, 4, -1, -1, -1, 0, 0, -1, 40,
                4, 9, 0, -1, -1, -1, 0, 0, -1, 40,
                20, 2, 0, 1, 1,
                1,
                'b',
                2, 1, 1, 0, 0, 2, 0, 0, 1, 1, 0));
        d.lot(6, 3);
        d.x.knit(0, 1, 0);
        d.x.knit(1, 1, 1);
        d.x.gauge(1, 8);
        d.x.undo(0);
        d.x.knit(0, 0, 0);
        d.x.found(0, 0);
        d.x.least(0);
        d.is("digest() of two LOTS", d.x.digest(), hashOf(
                1, 3, 4, 0, -1, 40, 0, 3, 0, -1,
                4, 9, 0, 1, -1, 12, 0, 8, -1, -1,
                20, 1, 0, 0, 0,
                6, 0, 3, 0, 0,
                9,
                'b',
                2, 1, 2, 2, 0, 1, 3, 1, 1, 1, 1));
        d.x.undo(0);
        d.x.back(0, 1);
        d.is("digest() with what is WANTED", d.x.digest(), hashOf(
                1, 3, 4, -1, -1, -1, 0, 0, 0, -1,
                4, 9, 0, 1, -1, 12, 0, 8, -1, -1,
                20, 0, 2, 1, 1,
                6, 0, 3, 0, 0,
                9,
                'b',
                2, 1, 2, 1, 0, 0, 5, 1, 1, 1, 1));
        d.x.gauge(1, 6);
        d.is("digest() with what is WANTED by GAUGE", d.x.digest(), hashOf(
                1, 3, 4, -1, -1, -1, 0, 0, 0, -1,
                4, 9, 0, 1, -1, 12, 0, 6, -1, -1,
                20, 0, 2, 1, 0,
                6, 0, 5, 0, 0,
                9,
                'b',
                2, 1, 2, 1, 0, 0, 7, 1, 1, 1, 1));
    }
}
