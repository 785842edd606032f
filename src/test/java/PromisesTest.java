/** For each promise of the document: ordinary inputs, the edges it names, and each refusal in its order. */
public final class PromisesTest {
    private static final int NONE = DyeLots.NONE, UNKNOWN = DyeLots.UNKNOWN, OUTSIDE = DyeLots.OUTSIDE,
            STATE = DyeLots.STATE, FULL = DyeLots.FULL;
    private static final int LOW = Integer.MIN_VALUE, HIGH = Integer.MAX_VALUE;

    public static void main(String[] args) {
        newObject();
        letter();
        blank();
        fault();
        garment();
        about();
        as();
        lot();
        lotOf();
        buy();
        back();
        knit();
        knitTakesLooseFirst();
        undo();
        gauge();
        wash();
        seen();
        leastPlan();
        leastRefusals();
        wanted();
        found();
        fits();
        sure();
        years();
        image();
        restore();
        count();
        digest();
        refusalsChangeNothing();
        Due.end();
    }

    private static void newObject() {
        Due d = new Due("1 a new object");
        for (int what = 0; what <= 10; what++) {
            d.is("count(" + what + ")", d.x.count(what), 0);
        }
        d.is("about(0, 0)", d.x.about(0, 0), UNKNOWN);
        d.is("lotOf(0, 0)", d.x.lotOf(0, 0), UNKNOWN);
        d.is("fault()", d.x.fault(), 0);
        d.is("blank()", d.x.blank(), 0);
        d.is("garment()", d.x.garment(), STATE);
        d.is("lot(0)", d.x.lot(0), STATE);
        d.is("wash()", d.x.wash(), STATE);
        d.is("least(0)", d.x.least(0), STATE);
        d.is("fits()", d.x.fits(), STATE);
        d.is("sure(0)", d.x.sure(0), UNKNOWN);
        d.is("years(1, 0, 0)", d.x.years(1, 0, 0), STATE);
        d.is("image()", d.x.image(), STATE);
        d.is("restore()", d.x.restore(), STATE);
        d.is("the constants", NONE == -1 && UNKNOWN == -101 && OUTSIDE == -102 && STATE == -103 && FULL == -104
                ? 1 : 0, 1);
    }

    private static void letter() {
        Due d = new Due("2 letter");
        for (int code : new int[] {31, 127, 0, -1, LOW, HIGH, 65536 + 112}) {
            d.is("letter(" + code + ")", d.x.letter(code), OUTSIDE);
        }
        d.is("letter(32)", d.x.letter(32), 1);
        d.is("letter(126)", d.x.letter(126), 2);
        for (int size = 3; size <= 18; size++) {
            d.is("letter(112)", d.x.letter(112), size);
        }
        d.is("letter(112) when full", d.x.letter(112), FULL);
        d.is("letter(31) when full", d.x.letter(31), OUTSIDE);
        d.is("count(8)", d.x.count(8), 18);
    }

    private static void blank() {
        Due d = new Due("3 blank");
        d.type("p1,p2");
        d.is("blank()", d.x.blank(), 5);
        d.is("blank() again", d.x.blank(), 0);
        d.is("count(8)", d.x.count(8), 0);
        d.is("letter(112)", d.x.letter(112), 1);
    }

    private static void faultOf(String text, int place) {
        Due d = new Due("4 fault of '" + text + "'");
        d.type(text);
        d.is("fault()", d.x.fault(), place);
        d.is("count(8)", d.x.count(8), text.length());
    }

    private static void fault() {
        faultOf("", 0);
        faultOf("p", 1);
        faultOf("P", 0);
        faultOf("q", 0);
        faultOf(" ", 0);
        faultOf(",", 0);
        faultOf("p0", 1);
        faultOf("p9", 2);
        faultOf("pp", 1);
        faultOf("p1;", 2);
        faultOf("p1;0", 2);
        faultOf("p1,", 3);
        faultOf("p12", 2);
        faultOf("p1,,", 3);
        faultOf("p1,b2,s3,c4,h5;0", 16);
        faultOf("p1,b2,s3,c4,h5,", 14);
        faultOf("p1,b2,s3,c4,h5,p1", 14);
        faultOf("p1,b2;", 6);
        faultOf("p1,b2;3", 7);
        faultOf("p1,b2;4", 6);
        faultOf("p1,b2;-", 6);
        faultOf("p1,b2;;", 6);
        faultOf("p1,b2;33", 7);
        faultOf("p1,b2;3,", 7);
        faultOf("p1,b2;3 ", 7);
        faultOf("p1,b2,;", 6);
        faultOf("x1,b0;3", 0);
        faultOf("p1,b2,s3,c4,h5;000", 16);
    }

    private static void garment() {
        for (String text : new String[] {"", "p1", "p1;0", "p1,b2", "p1,b2;", "p1,b2;4", "p1,b2;00", "p0,b2;0",
                "p1,b2,s3,c4,h5,p6", "p1,b2,", ";0", "p1,b2;0p", "a1,b2;0"}) {
            Due d = new Due("5 garment of '" + text + "'");
            d.type(text);
            d.is("garment()", d.x.garment(), STATE);
            d.is("count(8)", d.x.count(8), text.length());
            d.is("count(9)", d.x.count(9), 0);
            d.is("count(0)", d.x.count(0), 0);
        }
        Due d = Due.of("5 garment", "p1,b2,s3,c4,h5;3");
        d.is("count(8)", d.x.count(8), 0);
        d.is("count(9)", d.x.count(9), 1);
        d.is("count(1)", d.x.count(1), 3);
        d.lot(4, 9);
        d.x.found(0, 7);
        d.x.knit(0, 0, 0);
        d.type("p1");
        d.is("garment() of p1", d.x.garment(), STATE);
        d.is("what there is stays", d.x.count(2) * 100 + d.x.count(3) * 10 + d.x.count(7), 111);
        d.read("b9,h1;0");
        for (int what = 2; what <= 8; what++) {
            d.is("count(" + what + ") of the next one", d.x.count(what), 0);
        }
        d.is("count(0)", d.x.count(0), 2);
        d.is("count(1)", d.x.count(1), 0);
        d.is("count(9)", d.x.count(9), 2);
        d.is("about(0, 3)", d.x.about(0, 3), NONE);
        d.is("about(0, 7)", d.x.about(0, 7), 0);
        d.is("about(0, 8)", d.x.about(0, 8), NONE);
        d.is("about(2, 0)", d.x.about(2, 0), UNKNOWN);
    }

    private static void about() {
        Due d = Due.of("6 about", "p1,b2,s3,c4,h9;0");
        int[] rows = {1, 2, 3, 4, 9};
        int[] lights = {2, 4, 3, 1, 0};
        for (int part = 0; part < 5; part++) {
            int[] due = {part, rows[part], lights[part], NONE, NONE, NONE, 0, 0, NONE};
            for (int what = 0; what <= 8; what++) {
                d.is("about(" + part + ", " + what + ")", d.x.about(part, what), due[what]);
            }
        }
        for (int part : new int[] {-1, 5, LOW, HIGH}) {
            d.is("about(" + part + ", 0)", d.x.about(part, 0), UNKNOWN);
            d.is("about(" + part + ", 9)", d.x.about(part, 9), UNKNOWN);
        }
        for (int what : new int[] {-1, 9, LOW, HIGH}) {
            d.is("about(0, " + what + ")", d.x.about(0, what), OUTSIDE);
        }
        d.lot(3, 9);
        d.lot(8, 9);
        d.x.knit(1, 1, 1);
        d.x.knit(2, 1, 0);
        d.x.found(1, 320);
        int[] alone = {1, 2, 4, 1, NONE, 16, 15, 2, 320};
        int[] mixed = {2, 3, 3, 1, 0, 11, 0, 3, NONE};
        for (int what = 0; what <= 8; what++) {
            d.is("about(1, " + what + ")", d.x.about(1, what), alone[what]);
            d.is("about(2, " + what + ")", d.x.about(2, what), mixed[what]);
        }
        d.x.gauge(1, 18);
        d.is("about(1, 7) by gauge", d.x.about(1, 7), 18);
        d.is("about(1, 1) by gauge", d.x.about(1, 1), 2);
    }

    private static void as() {
        Due d = Due.of("7 as", "h1,c1,s1,b1,p1;0");
        int[][] due = {
            {0, NONE, NONE, 0, 0},
            {1, NONE, NONE, 1, NONE},
            {2, NONE, 2, NONE, NONE},
            {3, 3, NONE, NONE, NONE},
            {4, NONE, NONE, NONE, NONE}};
        for (int part = 0; part < 5; part++) {
            for (int kind = 0; kind < 5; kind++) {
                d.is("as(" + part + ", " + kind + ")", d.x.as(part, kind), due[part][kind]);
            }
        }
        for (int wrong : new int[] {-1, 5, LOW, HIGH}) {
            d.is("as(" + wrong + ", 0)", d.x.as(wrong, 0), UNKNOWN);
            d.is("as(" + wrong + ", 5)", d.x.as(wrong, 5), UNKNOWN);
            d.is("as(0, " + wrong + ")", d.x.as(0, wrong), OUTSIDE);
        }
    }

    private static void lot() {
        Due none = new Due("8 lot without a garment");
        none.is("lot(21)", none.x.lot(21), OUTSIDE);
        none.is("lot(-1)", none.x.lot(-1), OUTSIDE);
        none.is("lot(20)", none.x.lot(20), STATE);
        Due d = Due.of("8 lot", "p1,p1;0");
        d.is("lot(0)", d.x.lot(0), 0);
        d.is("lot(20)", d.x.lot(20), 1);
        d.is("lot(HIGH)", d.x.lot(HIGH), OUTSIDE);
        d.is("lot(LOW)", d.x.lot(LOW), OUTSIDE);
        d.is("lot(10)", d.x.lot(10), 2);
        d.is("lot(10) again", d.x.lot(10), FULL);
        d.is("lot(21) when full", d.x.lot(21), OUTSIDE);
        for (int lot = 0; lot < 3; lot++) {
            d.is("balls and rows of " + lot, d.x.lotOf(lot, 1) + d.x.lotOf(lot, 2), 0);
        }
        d.is("count(2)", d.x.count(2), 3);
    }

    private static void lotOf() {
        Due d = Due.of("9 lotOf", "p3,p1;0");
        d.lot(17, 5);
        d.x.knit(0, 0, 0);
        d.is("lotOf(0, 0)", d.x.lotOf(0, 0), 17);
        d.is("lotOf(0, 1)", d.x.lotOf(0, 1), 4);
        d.is("lotOf(0, 2)", d.x.lotOf(0, 2), 1);
        for (int wrong : new int[] {-1, 3, LOW, HIGH}) {
            d.is("lotOf(" + wrong + ", 0)", d.x.lotOf(wrong, 0), UNKNOWN);
            d.is("lotOf(" + wrong + ", 3)", d.x.lotOf(wrong, 3), UNKNOWN);
            d.is("lotOf(0, " + wrong + ")", d.x.lotOf(0, wrong), OUTSIDE);
        }
        d.is("lotOf(1, 0)", d.x.lotOf(1, 0), UNKNOWN);
        d.read("p3,p1;0");
        d.x.lot(2);
        d.is("lotOf(0, 1) of a new one", d.x.lotOf(0, 1), 0);
        d.is("lotOf(0, 2) of a new one", d.x.lotOf(0, 2), 0);
    }

    private static void buy() {
        Due d = Due.of("10 buy", "p1,p1;0");
        d.is("buy(0, 1) of none", d.x.buy(0, 1), UNKNOWN);
        d.x.lot(1);
        d.x.lot(2);
        d.is("buy(2, 0)", d.x.buy(2, 0), UNKNOWN);
        d.is("buy(-1, 1)", d.x.buy(-1, 1), UNKNOWN);
        for (int wrong : new int[] {0, -1, 10, LOW, HIGH}) {
            d.is("buy(0, " + wrong + ")", d.x.buy(0, wrong), OUTSIDE);
        }
        d.is("buy(0, 1)", d.x.buy(0, 1), 1);
        for (int times = 1; times <= 4; times++) {
            d.is("buy(0, 9)", d.x.buy(0, 9), 1 + 9 * times);
        }
        d.is("buy(0, 4) above 40", d.x.buy(0, 4), FULL);
        d.is("buy(0, 10) near 40", d.x.buy(0, 10), OUTSIDE);
        d.is("buy(0, 3)", d.x.buy(0, 3), 40);
        d.is("buy(0, 1) above 40", d.x.buy(0, 1), FULL);
        d.is("buy(1, 9) of another", d.x.buy(1, 9), 9);
        d.x.knit(0, 0, 0);
        d.is("buy(0, 1): loose rows are no balls", d.x.buy(0, 1), 40);
    }

    private static void back() {
        Due d = Due.of("11 back", "p1,p1;0");
        d.is("back(0, 1) of none", d.x.back(0, 1), UNKNOWN);
        d.lot(1, 5);
        d.is("back(1, 0)", d.x.back(1, 0), UNKNOWN);
        for (int wrong : new int[] {0, -1, 10, LOW, HIGH}) {
            d.is("back(0, " + wrong + ")", d.x.back(0, wrong), OUTSIDE);
        }
        d.is("back(0, 6)", d.x.back(0, 6), STATE);
        d.is("back(0, 2)", d.x.back(0, 2), 3);
        d.x.knit(0, 0, 0);
        d.is("back(0, 3): one is begun", d.x.back(0, 3), STATE);
        d.is("back(0, 2) to the last", d.x.back(0, 2), 0);
        d.is("lotOf(0, 2)", d.x.lotOf(0, 2), 3);
    }

    private static void knit() {
        Due d = Due.of("12 knit", "p9,b8,s1;0");
        d.is("knit(0, 0, 0) without lots", d.x.knit(0, 0, 0), UNKNOWN);
        d.lot(5, 2);
        d.lot(9, 3);
        for (int wrong : new int[] {-1, 3, LOW, HIGH}) {
            d.is("knit(" + wrong + ", 0, 0)", d.x.knit(wrong, 0, 0), UNKNOWN);
            d.is("knit(0, " + wrong + ", 0)", d.x.knit(0, wrong, 0), UNKNOWN);
            d.is("knit(0, 0, " + wrong + ")", d.x.knit(0, 0, wrong), UNKNOWN);
        }
        d.is("knit(0, 0, 0): 9 of 8 rows", d.x.knit(0, 0, 0), STATE);
        d.is("knit(0, 0, 1)", d.x.knit(0, 0, 1), 0);
        d.is("the first took 5: balls", d.x.lotOf(0, 1), 0);
        d.is("the first took 5: loose", d.x.lotOf(0, 2), 3);
        d.is("the second took 4: balls", d.x.lotOf(1, 1), 2);
        d.is("the second took 4: loose", d.x.lotOf(1, 2), 0);
        d.is("knit(0, 1, 1) again", d.x.knit(0, 1, 1), STATE);
        d.is("knit(0, 2, 1) again, of an unknown one", d.x.knit(0, 2, 1), UNKNOWN);
        d.is("knit(1, 0, 1): 4 of 3 rows", d.x.knit(1, 0, 1), STATE);
        d.is("knit(1, 1, 0): second 4 of 3 rows", d.x.knit(1, 1, 0), STATE);
        d.is("knit(1, 1, 1)", d.x.knit(1, 1, 1), Math.abs(14 - 18) * 2);
        d.is("knit(2, 1, 0): none left of the first", d.x.knit(2, 1, 0), STATE);
        d.is("knit(2, 0, 1): none of the second is taken", d.x.knit(2, 0, 1), 8 + Math.abs(18 - 14) * 3);
        d.is("about(2, 3)", d.x.about(2, 3), 0);
        d.is("about(2, 4)", d.x.about(2, 4), 1);
        d.is("about(2, 5)", d.x.about(2, 5), 14);
        d.is("about(2, 7)", d.x.about(2, 7), 1);
        d.is("count(3)", d.x.count(3), 3);
    }

    private static void knitTakesLooseFirst() {
        Due d = Due.of("12 knit, loose rows first", "p1,p3,p9,p2;0");
        d.lot(5, 4);
        d.x.knit(0, 0, 0);
        d.is("balls", d.x.lotOf(0, 1), 3);
        d.is("loose", d.x.lotOf(0, 2), 3);
        d.x.knit(1, 0, 0);
        d.is("balls: of loose ones only", d.x.lotOf(0, 1), 3);
        d.is("loose: none", d.x.lotOf(0, 2), 0);
        d.x.knit(2, 0, 0);
        d.is("balls: three begun", d.x.lotOf(0, 1), 0);
        d.is("loose: three left", d.x.lotOf(0, 2), 3);
        d.x.undo(2);
        d.is("balls stay begun", d.x.lotOf(0, 1), 0);
        d.is("loose: all but one", d.x.lotOf(0, 2), 11);
        d.x.knit(3, 0, 0);
        d.is("loose: more than a ball of them", d.x.lotOf(0, 2), 9);
    }

    private static void undo() {
        Due d = Due.of("13 undo", "p9,b1,s4;0");
        d.lot(5, 9);
        d.lot(9, 9);
        for (int wrong : new int[] {-1, 3, LOW, HIGH}) {
            d.is("undo(" + wrong + ")", d.x.undo(wrong), UNKNOWN);
        }
        d.is("undo(0) of what is not knitted", d.x.undo(0), STATE);
        d.x.knit(0, 1, 0);
        d.x.knit(1, 1, 0);
        d.x.knit(2, 0, 0);
        d.is("undo(0)", d.x.undo(0), 2);
        d.is("undo(0) again", d.x.undo(0), STATE);
        d.is("loose of the first", d.x.lotOf(1, 2), 2 + 4);
        d.is("loose of the second", d.x.lotOf(0, 2), 3);
        d.is("undo(1): the second gave none", d.x.undo(1), 1);
        d.is("loose of the first", d.x.lotOf(1, 2), 2 + 4);
        d.is("undo(2)", d.x.undo(2), 1);
        d.is("loose of the second", d.x.lotOf(0, 2), 6);
        for (int what = 3; what <= 8; what++) {
            d.is("about(0, " + what + ")", d.x.about(0, what), what == 6 || what == 7 ? 0 : NONE);
        }
        Due g = Due.of("13 undo after gauge", "p4,p4;0");
        g.lot(5, 9);
        g.x.knit(0, 0, 0);
        g.x.gauge(0, 8);
        g.is("wanted(0, 1)", g.x.wanted(0, 1), 0);
        g.is("undo(0)", g.x.undo(0), 1);
        g.is("loose: what it took in truth, but one", g.x.lotOf(0, 2), 7);
        g.x.back(0, 7);
        g.is("wanted(0, 1): what was told is gone", g.x.wanted(0, 1), 1);
        g.x.buy(0, 1);
        g.x.knit(0, 0, 0);
        g.is("wanted(0, 1): and is not told anew", g.x.wanted(0, 1), 0);
    }

    private static void gauge() {
        Due d = Due.of("14 gauge", "p3,b5,s2;0");
        d.lot(5, 5);
        d.lot(9, 1);
        for (int wrong : new int[] {-1, 3, LOW, HIGH}) {
            d.is("gauge(" + wrong + ", 1)", d.x.gauge(wrong, 1), UNKNOWN);
            d.is("gauge(" + wrong + ", 0)", d.x.gauge(wrong, 0), UNKNOWN);
        }
        for (int wrong : new int[] {0, -1, 19, LOW, HIGH}) {
            d.is("gauge(0, " + wrong + ")", d.x.gauge(0, wrong), OUTSIDE);
        }
        d.is("gauge(0, 1) of what is not knitted", d.x.gauge(0, 1), STATE);
        d.x.knit(0, 0, 0);
        d.x.knit(2, 0, 1);
        d.is("gauge(2, 2) of two lots", d.x.gauge(2, 2), STATE);
        d.is("rows of lot 0", 4 * d.x.lotOf(0, 1) + d.x.lotOf(0, 2), 16);
        d.is("gauge(0, 18)", d.x.gauge(0, 18), 15);
        d.is("balls", d.x.lotOf(0, 1), 0);
        d.is("loose", d.x.lotOf(0, 2), 1);
        d.is("gauge(0, 18) again", d.x.gauge(0, 18), 0);
        d.is("gauge(0, 1)", d.x.gauge(0, 1), -17);
        d.is("loose", d.x.lotOf(0, 2), 18);
        d.is("balls", d.x.lotOf(0, 1), 0);
        d.x.knit(1, 0, 0);
        d.is("gauge(1, 18): 13 of 13 rows", d.x.gauge(1, 18), 13);
        d.is("loose", d.x.lotOf(0, 2), 0);
        d.is("gauge(0, 2): none left", d.x.gauge(0, 2), STATE);
        d.is("about(0, 7)", d.x.about(0, 7), 1);
        Due m = Due.of("14 gauge, mixed though of one alone", "p1,b5;0");
        m.lot(5, 5);
        m.lot(6, 5);
        m.x.knit(0, 0, 1);
        m.is("gauge(0, 1)", m.x.gauge(0, 1), STATE);
        m.is("gauge(0, 0)", m.x.gauge(0, 0), OUTSIDE);
    }

    private static void wash() {
        Due d = Due.of("15 wash", "b1,b1;3");
        d.lot(20, 1);
        d.lot(8, 1);
        d.lot(12, 1);
        d.is("wash() of nothing knitted", d.x.wash(), 0);
        d.is("20", d.x.lotOf(0, 0), 17);
        d.is("8: no more than 10", d.x.lotOf(1, 0), 10);
        d.is("12: no less than 10", d.x.lotOf(2, 0), 10);
        d.x.knit(0, 0, 0);
        d.x.knit(1, 1, 1);
        d.is("count(4)", d.x.count(4), (34 - 20) * 4);
        d.is("wash()", d.x.wash(), (28 - 20) * 4);
        d.is("wash() again", d.x.wash(), (22 - 20) * 4);
        d.is("wash() again", d.x.wash(), 0);
        d.is("10 stays", d.x.lotOf(1, 0), 10);
        Due low = Due.of("15 wash, below 10", "b1,b1;1");
        low.lot(0, 1);
        low.lot(11, 1);
        low.x.wash();
        low.is("0", low.x.lotOf(0, 0), 1);
        low.is("11", low.x.lotOf(1, 0), 10);
        Due fast = Due.of("15 wash, fade 0", "b1,b1;0");
        fast.lot(0, 1);
        fast.x.wash();
        fast.is("0", fast.x.lotOf(0, 0), 0);
        fast.is("wash() with a garment", fast.x.wash(), 0);
    }

    private static void seenOf(String garment, int perTone) {
        Due d = Due.of("6 seen of " + garment, garment);
        d.lot(2, 9);
        d.lot(7, 9);
        d.is("knit(1, 1, 1)", d.x.knit(1, 1, 1), 0);
        d.is("knit(0, 0, 0)", d.x.knit(0, 0, 0), 10 * perTone);
        d.is("about(0, 6)", d.x.about(0, 6), 10 * perTone);
        d.is("about(1, 6) of the last one", d.x.about(1, 6), 0);
        d.x.undo(0);
        d.is("knit(0, 0, 1)", d.x.knit(0, 0, 1), 5 * perTone);
        d.is("undo(1)", d.x.undo(1), 1);
        d.is("about(0, 6) of one alone", d.x.about(0, 6), 0);
    }

    private static void seen() {
        seenOf("p2,p2;0", 2);
        seenOf("b2,b2;0", 4);
        seenOf("s2,s2;0", 6);
        seenOf("c2,c2;0", 1);
        seenOf("h2,h2;0", 0);
        seenOf("b2,s2;0", 3);
        seenOf("s2,b2;0", 3);
        seenOf("s2,p2;0", 2);
        seenOf("s2,c2;0", 1);
        seenOf("b2,h2;0", 0);
    }

    private static void leastPlan() {
        Due d = Due.of("16 least", "b4,b4,b3;0");
        d.is("least(0) without lots", d.x.least(0), NONE);
        d.lot(0, 1);
        d.lot(3, 1);
        d.is("least(0): too few", d.x.least(0), NONE);
        d.is("least(12): too few", d.x.least(12), NONE);
        d.lot(20, 1);
        d.is("least(0)", d.x.least(0), bruteLeast(new int[] {4, 4, 3}, new int[] {0, 3, 20}, 4));
        Due k = Due.of("16 least, with what is knitted", "b2,b2,b2;0");
        k.lot(4, 9);
        k.lot(6, 9);
        k.lot(8, 9);
        k.x.knit(1, 0, 2);
        k.is("least(0)", k.x.least(0), 0);
        k.is("least(10): of like ones the first", k.x.least(10), 2);
        k.is("least(11): it is knitted", k.x.least(11), NONE);
        k.is("least(12)", k.x.least(12), 2);
        k.is("least(13): no such part", k.x.least(13), NONE);
        k.is("least(14): no such part", k.x.least(14), NONE);
        k.x.knit(0, 1, 1);
        k.x.knit(2, 0, 0);
        k.is("least(0) of all knitted", k.x.least(0), 16);
        k.is("least(10) of all knitted", k.x.least(10), NONE);
        k.is("count(10)", k.x.count(10), 8);
        k.is("nothing is knitted by it", k.x.lotOf(0, 1), 8);
        Due t = Due.of("16 least, rows of the first rounded up", "b3,b3;0");
        t.lot(4, 1);
        t.lot(9, 1);
        // Twice (0, 1) would take 4 and 2 rows, twice (1, 0) 2 and 4: both alike, the first by numbers.
        t.is("least(0)", t.x.least(0), 0);
        t.is("least(10)", t.x.least(10), 1);
        t.is("least(11)", t.x.least(11), 1);
        t.x.knit(0, 0, 1);
        t.is("least(11) with 2 and 3 rows left", t.x.least(11), 1);
        Due o = Due.of("16 least, by loose rows too", "b1,b9;0");
        o.lot(4, 3);
        o.x.knit(1, 0, 0);
        o.x.undo(1);
        o.is("loose", o.x.lotOf(0, 2), 11);
        o.is("least(0)", o.x.least(0), 0);
        o.is("least(11)", o.x.least(11), 0);
    }

    /** What is seen at least of bodies not knitted yet, of lots with so many rows each: by all that can be. */
    private static int bruteLeast(int[] rows, int[] shades, int rowsEach) {
        int lots = shades.length;
        int makes = lots * lots;
        int all = 1;
        for (int part = 0; part < rows.length; part++) {
            all *= makes;
        }
        int best = Integer.MAX_VALUE;
        for (int ways = 0; ways < all; ways++) {
            int[] took = new int[lots];
            int seen = 0;
            int before = 0;
            int rest = ways;
            for (int part = 0; part < rows.length; part++, rest /= makes) {
                int a = rest % makes / lots;
                int b = rest % makes % lots;
                took[a] += a == b ? rows[part] : rows[part] - rows[part] / 2;
                took[b] += a == b ? 0 : rows[part] / 2;
                int tone = shades[a] + shades[b];
                seen += part == 0 ? 0 : 4 * Math.abs(tone - before);
                before = tone;
            }
            boolean enough = true;
            for (int lot = 0; lot < lots; lot++) {
                enough &= took[lot] <= rowsEach;
            }
            best = enough ? Math.min(best, seen) : best;
        }
        return best;
    }

    private static void leastRefusals() {
        Due d = new Due("16 least, refusals");
        for (int wrong : new int[] {-1, 1, 9, 15, LOW, HIGH}) {
            d.is("least(" + wrong + ")", d.x.least(wrong), OUTSIDE);
        }
        d.is("least(14)", d.x.least(14), STATE);
        d.is("count(10): refusals do not count", d.x.count(10), 0);
        d.read("p1,p1;0");
        d.x.image();
        for (int times = 1; times <= 10; times++) {
            d.is("least(14)", d.x.least(14), NONE);
            d.is("count(10)", d.x.count(10), times);
        }
        d.x.restore();
        d.read("p1,p1;0");
        for (int times = 11; times <= 20; times++) {
            d.is("least(0)", d.x.least(0), NONE);
            d.is("count(10)", d.x.count(10), times);
        }
        d.is("least(0) the 21st time", d.x.least(0), STATE);
        d.is("least(15) the 21st time", d.x.least(15), OUTSIDE);
        d.read("p1,p1;0");
        d.is("least(0) of another garment", d.x.least(0), STATE);
        d.is("count(10)", d.x.count(10), 20);
    }

    private static void wanted() {
        Due d = Due.of("17 wanted", "p9,b5,s4;0");
        d.is("wanted(0, 0) of none", d.x.wanted(0, 0), UNKNOWN);
        d.x.lot(3);
        d.x.lot(4);
        for (int wrong : new int[] {-1, 2, LOW, HIGH}) {
            d.is("wanted(" + wrong + ", 0)", d.x.wanted(wrong, 0), UNKNOWN);
            d.is("wanted(" + wrong + ", 2)", d.x.wanted(wrong, 2), UNKNOWN);
            d.is("wanted(0, " + wrong + ")", d.x.wanted(0, wrong), OUTSIDE);
        }
        d.is("wanted(0, 0): 18 rows", d.x.wanted(0, 0), 5);
        d.is("wanted(0, 1): nothing told", d.x.wanted(0, 1), 5);
        d.x.buy(0, 4);
        d.is("wanted(0, 0): 2 rows", d.x.wanted(0, 0), 1);
        d.x.buy(0, 1);
        d.is("wanted(0, 0): none", d.x.wanted(0, 0), 0);
        d.x.knit(1, 0, 0);
        d.is("wanted(1, 0): 13 rows", d.x.wanted(1, 0), 4);
        d.is("wanted(1, 1): nothing told", d.x.wanted(1, 1), 4);
        d.x.gauge(1, 6);
        d.is("wanted(1, 1): 13 by 6 by 5 is 15.6", d.x.wanted(1, 1), 4);
        d.x.gauge(1, 7);
        d.is("wanted(1, 1): 13 by 7 by 5 is 18.2", d.x.wanted(1, 1), 5);
        d.is("wanted(1, 0): 13 rows", d.x.wanted(1, 0), 4);
        d.x.knit(2, 0, 0);
        d.is("wanted(1, 1): of those told alone: 9 by 7 by 5 is 12.6", d.x.wanted(1, 1), 4);
        d.x.gauge(2, 4);
        d.is("wanted(1, 1): 9 by 11 by 9 is 11", d.x.wanted(1, 1), 3);
        d.is("wanted(0, 1): less the 9 that there are", d.x.wanted(0, 1), 1);
        d.x.gauge(2, 1);
        d.is("wanted(1, 1): 9 by 8 by 9 is 8", d.x.wanted(1, 1), 2);
        d.is("wanted(0, 1): there are more", d.x.wanted(0, 1), 0);
        d.x.buy(1, 9);
        d.x.knit(0, 1, 1);
        d.is("wanted(1, 0): all knitted", d.x.wanted(1, 0), 0);
        d.is("wanted(1, 1): all knitted", d.x.wanted(1, 1), 0);
    }

    private static void found() {
        Due none = new Due("18 found without a garment");
        none.is("found(0, 0)", none.x.found(0, 0), UNKNOWN);
        Due d = Due.of("18 found", "p9,b5,s4;0");
        for (int wrong : new int[] {-1, 2, 3, LOW, HIGH}) {
            d.is("found(" + wrong + ", 0)", d.x.found(wrong, 0), UNKNOWN);
            d.is("found(" + wrong + ", 321)", d.x.found(wrong, 321), UNKNOWN);
        }
        for (int wrong : new int[] {-2, 321, LOW, HIGH}) {
            d.is("found(0, " + wrong + ")", d.x.found(0, wrong), OUTSIDE);
        }
        d.is("found(0, 0)", d.x.found(0, 0), NONE);
        d.is("found(0, 320)", d.x.found(0, 320), 0);
        d.is("found(1, 7)", d.x.found(1, 7), NONE);
        d.is("count(7)", d.x.count(7), 2);
        d.is("about(0, 8)", d.x.about(0, 8), 320);
        d.is("about(1, 8)", d.x.about(1, 8), 7);
        d.is("about(2, 8)", d.x.about(2, 8), NONE);
        d.is("found(0, NONE)", d.x.found(0, NONE), 320);
        d.is("found(0, NONE) again", d.x.found(0, NONE), NONE);
        d.is("count(7)", d.x.count(7), 1);
    }

    private static void fits() {
        Due d = Due.of("19 fits", "b1,b2,s3,s4,h5;0");
        d.is("fits() without lots", d.x.fits(), 0);
        d.x.lot(4);
        d.is("fits() of one lot", d.x.fits(), 1);
        d.x.lot(6);
        d.is("fits() of two lots", d.x.fits(), 3 * 3 * 3 * 3 * 3);
        d.x.lot(6);
        d.is("fits() of three lots", d.x.fits(), 7776);
        d.x.found(0, 16);
        // Tones are 8, 10, 10, 12, 12, 12: four tones apart are 8 with one of three.
        d.is("fits(): 16 between bodies", d.x.fits(), 2 * 3 * 6 * 6 * 6);
        d.x.found(0, 8);
        d.is("fits(): 8 between bodies", d.x.fits(), (2 * 2 + 2 * 2 * 3) * 6 * 6 * 6);
        d.x.found(2, 24);
        d.is("fits(): 24 between sleeves as well", d.x.fits(), 16 * 2 * 3 * 6);
        d.x.found(3, 1);
        d.is("fits(): a hem shows nothing", d.x.fits(), 0);
        d.x.found(3, 0);
        d.is("fits(): and 0 is all", d.x.fits(), 16 * 2 * 3 * 6);
        d.x.found(0, NONE);
        d.x.found(3, NONE);
        d.x.found(1, 12);
        d.is("fits(): a chain", d.x.fits(), 6 * (1 * 3 * 1 + 3 * 1 * 3) * 6);
        d.is("fits() is not by what is knitted", d.x.count(3), 0);
        d.x.buy(0, 9);
        d.x.knit(1, 0, 0);
        d.is("fits() with one knitted", d.x.fits(), 6 * (1 * 3 * 1 + 3 * 1 * 3) * 6);
    }

    private static void sure() {
        Due d = Due.of("20 sure", "b1,b2,b3;0");
        for (int wrong : new int[] {-1, 3, LOW, HIGH}) {
            d.is("sure(" + wrong + ")", d.x.sure(wrong), UNKNOWN);
        }
        d.is("sure(0) without lots", d.x.sure(0), NONE);
        d.x.lot(0);
        d.is("sure(2) of one lot, of tone 0", d.x.sure(2), 0);
        d.x.lot(0);
        d.is("sure(2) of two lots alike", d.x.sure(2), 0);
        d.x.lot(5);
        d.is("sure(2) of another too", d.x.sure(2), NONE);
        d.x.found(0, 40);
        d.is("sure(0): it may be this or that", d.x.sure(0), NONE);
        // Tones are 0, 0, 5, 0, 5, 10: with 40 first, then 20, only the middle one is open.
        d.x.found(1, 20);
        d.is("sure(2) by a chain", d.x.sure(2), 5);
        d.is("sure(1)", d.x.sure(1), NONE);
        d.x.found(1, 7);
        d.is("sure(2) if nothing fits", d.x.sure(2), NONE);
        Due k = Due.of("20 sure is not by what is knitted", "b1,b2;0");
        k.lot(3, 9);
        k.lot(8, 9);
        k.x.knit(0, 0, 0);
        k.is("sure(0)", k.x.sure(0), NONE);
    }

    private static void years() {
        Due d = Due.of("21 years", "b1,s1,s1;2");
        for (int wrong : new int[] {0, -1, 31, LOW, HIGH}) {
            d.is("years(" + wrong + ", 1, 0)", d.x.years(wrong, 1, 0), OUTSIDE);
        }
        for (int wrong : new int[] {-1, LOW}) {
            d.is("years(1, " + wrong + ", 0)", d.x.years(1, wrong, 0), OUTSIDE);
        }
        for (int wrong : new int[] {-1, 2, LOW, HIGH}) {
            d.is("years(1, 1, " + wrong + ")", d.x.years(1, 1, wrong), OUTSIDE);
        }
        d.is("years(1, 0, 0) without lots", d.x.years(1, 0, 0), STATE);
        d.x.lot(4);
        d.is("years(1, 1, 2) with a lot", d.x.years(1, 1, 2), OUTSIDE);
        d.is("years(30, 0, 0) of one lot", d.x.years(30, 0, 0), 0);
        d.x.lot(9);
        d.x.lot(11);
        long digest = d.x.digest();
        for (int seed : new int[] {0, 1, 77, 4711, HIGH}) {
            for (int times : new int[] {1, 2, 30}) {
                long[] due = drawnYears(times, seed);
                d.is("years(" + times + ", " + seed + ", 0)", d.x.years(times, seed, 0), due[0]);
                d.is("years(" + times + ", " + seed + ", 1)", d.x.years(times, seed, 1), due[1]);
            }
        }
        d.is("digest(): they only would be", d.x.digest(), digest);
    }

    /** Of "b1,s1,s1;2" with three lots: what is seen and the last seed, by the document's words. */
    private static long[] drawnYears(int times, long seed) {
        long seen = 0;
        for (int time = 0; time < times; time++) {
            int[] drawn = new int[6];
            for (int at = 0; at < 6; at++) {
                seed = (1103515245L * seed + 12345L) % 2147483648L;
                drawn[at] = (int) (seed / 65536L % (at < 3 ? 21 : 3));
            }
            int[] tones = new int[3];
            for (int part = 0; part < 3; part++) {
                int shade = drawn[drawn[3 + part]];
                tones[part] = 2 * (shade > 10 ? Math.max(10, shade - 2) : Math.min(10, shade + 2));
            }
            seen += 3 * Math.abs(tones[0] - tones[1]) + 6 * Math.abs(tones[1] - tones[2]);
        }
        return new long[] {seen, seed};
    }

    private static void image() {
        Due d = Due.of("22 image", "b5,s6,s1;2");
        d.lot(4, 5);
        d.is("image()", d.x.image(), 0);
        d.x.knit(0, 0, 0);
        d.x.knit(2, 0, 0);
        d.is("image() of two knitted", d.x.image(), 2);
        d.x.undo(0);
        d.is("restore() of the latest", d.x.restore(), 2);
        d.is("image() changes nothing", d.x.lotOf(0, 1), 3);
    }

    private static void restore() {
        Due d = Due.of("23 restore", "b5,s6,s1;2");
        d.is("restore() of none", d.x.restore(), STATE);
        d.lot(4, 5);
        d.lot(17, 5);
        d.x.knit(0, 0, 1);
        d.x.knit(2, 1, 1);
        d.x.gauge(2, 3);
        d.x.found(0, 33);
        long digest = d.x.digest();
        d.is("image()", d.x.image(), 2);
        d.x.lot(1);
        d.x.buy(0, 2);
        d.x.back(1, 1);
        d.x.wash();
        d.x.undo(2);
        d.x.knit(1, 2, 2);
        d.x.knit(1, 0, 0);
        d.x.found(0, NONE);
        d.x.found(1, 5);
        d.is("restore()", d.x.restore(), 2);
        d.is("digest() then", d.x.digest(), digest);
        d.is("lotOf(2, 0): it came since", d.x.lotOf(2, 0), UNKNOWN);
        d.is("lot(9) again", d.x.lot(9), 2);
        d.is("lotOf(2, 1)", d.x.lotOf(2, 1), 0);
        d.x.undo(0);
        d.is("restore() once more", d.x.restore(), 2);
        d.is("digest() then", d.x.digest(), digest);
        d.is("what was told is there: 6 by 3 by 1", d.x.wanted(0, 1), 1);
        d.x.letter(112);
        d.x.least(0);
        d.x.restore();
        d.is("the page stays", d.x.count(8), 1);
        d.is("least() counts on", d.x.count(10), 1);
        d.is("garment() of a page that is none", d.x.garment(), STATE);
        d.is("restore() is still there", d.x.restore(), 2);
        d.read("b5,s6,s1;2");
        d.is("restore() of a garment that is gone", d.x.restore(), STATE);
        d.is("count(9) counts on", d.x.count(9), 2);
        d.x.image();
        d.is("restore() of this one", d.x.restore(), 0);
    }

    private static void count() {
        Due d = Due.of("24 count", "b5,s6,s1;2");
        d.lot(4, 5);
        d.lot(17, 7);
        d.x.knit(0, 0, 0);
        d.x.knit(1, 1, 1);
        d.x.found(1, 0);
        d.x.letter(112);
        d.x.letter(49);
        d.x.least(0);
        int[] due = {3, 2, 2, 2, 26 * 3, 8, 5, 1, 2, 1, 1};
        for (int what = 0; what <= 10; what++) {
            d.is("count(" + what + ")", d.x.count(what), due[what]);
        }
        for (int wrong : new int[] {-1, 11, LOW, HIGH}) {
            d.is("count(" + wrong + ")", d.x.count(wrong), OUTSIDE);
        }
    }

    private static void digestIs(Due d) {
        long h = 829;
        for (int part = 0; part < d.x.count(0); part++) {
            for (int what = 0; what <= 8; what++) {
                h = 31 * h + d.x.about(part, what);
            }
            h = 31 * h + d.x.sure(part);
        }
        for (int lot = 0; lot < d.x.count(2); lot++) {
            for (int what = 0; what <= 2; what++) {
                h = 31 * h + d.x.lotOf(lot, what);
            }
            h = 31 * h + d.x.wanted(lot, 0);
            h = 31 * h + d.x.wanted(lot, 1);
        }
        if (d.x.count(0) > 0) {
            h = 31 * h + d.x.fits();
        }
        int letters = d.x.count(8);
        String text = "c1 ~;";
        for (int place = 0; place < letters; place++) {
            h = 31 * h + text.charAt(place);
        }
        for (int what = 0; what <= 10; what++) {
            h = 31 * h + d.x.count(what);
        }
        d.is("digest()", d.x.digest(), h);
        d.is("digest() again", d.x.digest(), h);
    }

    private static void digest() {
        Due d = new Due("25 digest");
        digestIs(d);
        d.type("c1 ~;");
        digestIs(d);
        d.read("b5,s6,s1;2");
        digestIs(d);
        d.lot(4, 5);
        d.lot(17, 7);
        digestIs(d);
        d.x.knit(0, 0, 0);
        d.x.gauge(0, 9);
        d.x.knit(1, 1, 0);
        d.x.found(1, 36);
        d.x.least(0);
        d.type("c1");
        digestIs(d);
    }

    /** Every refusal that a garment in work can meet, with the digest told before and after. */
    private static void refusalsChangeNothing() {
        Due d = Due.of("refusals change nothing", "b5,s6,s1;2");
        d.lot(4, 40);
        d.lot(17, 1);
        d.x.lot(2);
        d.x.knit(0, 0, 0);
        d.x.knit(1, 0, 1);
        d.x.buy(0, 3);
        d.x.found(0, 3);
        d.type("p1,p1;x");
        long digest = d.x.digest();
        DyeLots x = d.x;
        int[] refused = {x.letter(31), x.garment(), x.about(9, 0), x.about(0, 9), x.as(9, 0), x.as(0, 9), x.lot(21),
            x.lot(1), x.lotOf(3, 0), x.lotOf(0, 3), x.buy(3, 1), x.buy(0, 0), x.buy(0, 9), x.back(3, 1), x.back(0, 0),
            x.back(1, 9), x.knit(9, 0, 0), x.knit(2, 3, 0), x.knit(2, 0, 3), x.knit(0, 0, 0), x.knit(2, 2, 0),
            x.undo(9), x.undo(2), x.gauge(9, 1), x.gauge(0, 19), x.gauge(1, 6), x.gauge(2, 1), x.least(1),
            x.wanted(3, 0), x.wanted(0, 2), x.found(2, 1), x.found(0, 321), x.sure(3), x.years(0, 0, 0), x.restore(),
            x.count(11)};
        for (int at = 0; at < refused.length; at++) {
            d.is("refusal " + at + " is one", refused[at] <= UNKNOWN ? 1 : 0, 1);
        }
        d.is("digest()", d.x.digest(), digest);
    }
}
