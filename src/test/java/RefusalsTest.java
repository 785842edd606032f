import java.util.List;

/**
 * Each refusal of each call, in the order in which the call tells them: where several hold at once, the first is
 * due. Each on an object of its own, looked at before and after, and then going on beside a twin that was never
 * asked, for what an object keeps unseen (the image, what gauge told).
 */
public final class RefusalsTest {
    private static final int UNKNOWN = DyeLots.UNKNOWN, OUTSIDE = DyeLots.OUTSIDE, STATE = DyeLots.STATE,
            FULL = DyeLots.FULL;
    private static final int LOW = Integer.MIN_VALUE, HIGH = Integer.MAX_VALUE;
    private static final int[] NO_PARTS = {LOW, -1, 4, 5, HIGH};
    private static final int[] NO_LOTS = {LOW, -1, 3, HIGH};

    private interface Begin {
        void on(Due d);
    }

    private interface Call {
        long on(DyeLots x);
    }

    public static void main(String[] args) {
        letter();
        garment();
        about();
        as();
        lot();
        lotOf();
        buy();
        back();
        knit();
        undo();
        gauge();
        wash();
        least();
        wanted();
        found();
        fits();
        sure();
        years();
        image();
        restore();
        count();
        Due.end();
    }

    private static void refused(String call, Begin begin, Call asked, int due) {
        Due d = new Due("refused: " + call);
        Due twin = new Due("the twin of " + call);
        begin.on(d);
        begin.on(twin);
        List<String> before = Look.at(d.x);
        d.is(call, asked.on(d.x), due);
        d.same("what is told then", Look.at(d.x), before);
        d.is(call + " again", asked.on(d.x), due);
        d.same("what it goes on with", Look.goingOn(d.x), Look.goingOn(twin.x));
    }

    // ---- what the refusals are met in

    /** No garment, but a page that is none. */
    private static void nothing(Due d) {
        d.type("p1,p1;x");
    }

    /** A garment and no lot. */
    private static void bare(Due d) {
        d.read("b5,s6,s1,h4;2");
        d.x.found(2, 0);
        d.type("p1");
    }

    /** An image with two lots; now there are three, a part alone with its gauge told, one mixed and two not knitted. */
    private static void inWork(Due d) {
        d.read("b5,s6,s1,h4;2");
        d.lot(4, 5);
        d.lot(17, 2);
        d.x.knit(0, 0, 0);
        d.x.gauge(0, 7);
        d.x.found(0, 3);
        d.x.image();
        d.x.lot(9);
        d.x.knit(1, 0, 1);
        d.x.found(1, 36);
        d.x.least(0);
        d.type("p1,p1;x");
    }

    private static void withTwoLots(Due d) {
        d.read("b5,s6,s1,h4;2");
        d.lot(4, 5);
        d.x.image();
        d.lot(17, 2);
    }

    private static void withFullLot(Due d) {
        d.read("b5,s6,s1,h4;2");
        d.lot(4, 40);
        d.lot(17, 39);
        d.x.image();
    }

    /** Of one part gauge told, of the next one it did not yet; a row is left, and none of another lot. */
    private static void withOneTold(Due d) {
        d.read("b5,s6,s1,h4;2");
        d.lot(4, 4);
        d.lot(17, 0);
        d.x.knit(0, 0, 0);
        d.x.gauge(0, 9);
        d.x.knit(1, 0, 0);
        d.lotIs(0, 0, 1);
        d.is("wanted(1, 1): 5 rows by 9 by 5", d.x.wanted(1, 1), 3);
    }

    private static void withFullPage(Due d) {
        inWork(d);
        d.type("pppppppppppp");
    }

    private static void withLeastDone(Due d) {
        inWork(d);
        for (int times = 1; times < 20; times++) {
            d.x.least(10);
        }
    }

    // ---- the calls

    private static void letter() {
        for (int code : new int[] {LOW, -1, 0, 31, 127, 128, HIGH}) {
            refused("letter(" + code + ")", RefusalsTest::inWork, x -> x.letter(code), OUTSIDE);
            refused("letter(" + code + "), none", RefusalsTest::nothing, x -> x.letter(code), OUTSIDE);
            refused("letter(" + code + "), full too", RefusalsTest::withFullPage, x -> x.letter(code), OUTSIDE);
        }
        for (int code : new int[] {32, 112, 126}) {
            refused("letter(" + code + "), full", RefusalsTest::withFullPage, x -> x.letter(code), FULL);
        }
    }

    private static void garment() {
        refused("garment()", RefusalsTest::nothing, x -> x.garment(), STATE);
        refused("garment() of p1", RefusalsTest::bare, x -> x.garment(), STATE);
        refused("garment() of p1,p1;x", RefusalsTest::inWork, x -> x.garment(), STATE);
        refused("garment() of an empty page", RefusalsTest::withTwoLots, x -> x.garment(), STATE);
        for (String page : new String[] {"", "p", "p1;0", "p1,p1", "p1,p1;", "p1,p1;4", "p1,p0;3", "p1,a1;3", "p1,p1;00",
            "p1,p1,p1,p1,p1,p1", "p1,p1,;0", ",p1,p1;0"}) {
            refused("garment() of '" + page + "'", d -> {
                withTwoLots(d);
                d.type(page);
            }, x -> x.garment(), STATE);
        }
    }

    private static void about() {
        for (int part : NO_PARTS) {
            refused("about(" + part + ", 0)", RefusalsTest::inWork, x -> x.about(part, 0), UNKNOWN);
            refused("about(" + part + ", 9)", RefusalsTest::inWork, x -> x.about(part, 9), UNKNOWN);
            refused("about(" + part + ", -1)", RefusalsTest::inWork, x -> x.about(part, -1), UNKNOWN);
        }
        refused("about(0, 0), none", RefusalsTest::nothing, x -> x.about(0, 0), UNKNOWN);
        refused("about(0, 9), none", RefusalsTest::nothing, x -> x.about(0, 9), UNKNOWN);
        for (int what : new int[] {LOW, -1, 9, HIGH}) {
            refused("about(0, " + what + ")", RefusalsTest::inWork, x -> x.about(0, what), OUTSIDE);
            refused("about(3, " + what + ")", RefusalsTest::bare, x -> x.about(3, what), OUTSIDE);
        }
    }

    private static void as() {
        for (int part : NO_PARTS) {
            refused("as(" + part + ", 0)", RefusalsTest::inWork, x -> x.as(part, 0), UNKNOWN);
            refused("as(" + part + ", 5)", RefusalsTest::inWork, x -> x.as(part, 5), UNKNOWN);
            refused("as(" + part + ", -1)", RefusalsTest::inWork, x -> x.as(part, -1), UNKNOWN);
        }
        refused("as(0, 0), none", RefusalsTest::nothing, x -> x.as(0, 0), UNKNOWN);
        for (int kind : new int[] {LOW, -1, 5, HIGH}) {
            refused("as(0, " + kind + ")", RefusalsTest::inWork, x -> x.as(0, kind), OUTSIDE);
            refused("as(3, " + kind + ")", RefusalsTest::bare, x -> x.as(3, kind), OUTSIDE);
        }
    }

    private static void lot() {
        for (int shade : new int[] {LOW, -1, 21, HIGH}) {
            refused("lot(" + shade + ")", RefusalsTest::withTwoLots, x -> x.lot(shade), OUTSIDE);
            refused("lot(" + shade + "), none too", RefusalsTest::nothing, x -> x.lot(shade), OUTSIDE);
            refused("lot(" + shade + "), full too", RefusalsTest::inWork, x -> x.lot(shade), OUTSIDE);
        }
        for (int shade : new int[] {0, 20}) {
            refused("lot(" + shade + "), none", RefusalsTest::nothing, x -> x.lot(shade), STATE);
            refused("lot(" + shade + "), full", RefusalsTest::inWork, x -> x.lot(shade), FULL);
        }
    }

    private static void lotOf() {
        for (int lot : NO_LOTS) {
            refused("lotOf(" + lot + ", 0)", RefusalsTest::inWork, x -> x.lotOf(lot, 0), UNKNOWN);
            refused("lotOf(" + lot + ", 3)", RefusalsTest::inWork, x -> x.lotOf(lot, 3), UNKNOWN);
            refused("lotOf(" + lot + ", -1)", RefusalsTest::inWork, x -> x.lotOf(lot, -1), UNKNOWN);
        }
        refused("lotOf(2, 0) of two", RefusalsTest::withTwoLots, x -> x.lotOf(2, 0), UNKNOWN);
        refused("lotOf(0, 0), none", RefusalsTest::nothing, x -> x.lotOf(0, 0), UNKNOWN);
        refused("lotOf(0, 0) without lots", RefusalsTest::bare, x -> x.lotOf(0, 0), UNKNOWN);
        for (int what : new int[] {LOW, -1, 3, HIGH}) {
            refused("lotOf(1, " + what + ")", RefusalsTest::inWork, x -> x.lotOf(1, what), OUTSIDE);
        }
    }

    private static void buy() {
        for (int lot : NO_LOTS) {
            refused("buy(" + lot + ", 1)", RefusalsTest::inWork, x -> x.buy(lot, 1), UNKNOWN);
            refused("buy(" + lot + ", 0)", RefusalsTest::inWork, x -> x.buy(lot, 0), UNKNOWN);
            refused("buy(" + lot + ", 10)", RefusalsTest::inWork, x -> x.buy(lot, 10), UNKNOWN);
        }
        refused("buy(0, 1), none", RefusalsTest::nothing, x -> x.buy(0, 1), UNKNOWN);
        refused("buy(0, 1) without lots", RefusalsTest::bare, x -> x.buy(0, 1), UNKNOWN);
        refused("buy(2, 1) of two", RefusalsTest::withTwoLots, x -> x.buy(2, 1), UNKNOWN);
        for (int balls : new int[] {LOW, -1, 0, 10, HIGH}) {
            refused("buy(1, " + balls + ")", RefusalsTest::inWork, x -> x.buy(1, balls), OUTSIDE);
            refused("buy(0, " + balls + "), full too", RefusalsTest::withFullLot, x -> x.buy(0, balls), OUTSIDE);
        }
        refused("buy(0, 1), full", RefusalsTest::withFullLot, x -> x.buy(0, 1), FULL);
        refused("buy(0, 9), full", RefusalsTest::withFullLot, x -> x.buy(0, 9), FULL);
        refused("buy(1, 2) with 39", RefusalsTest::withFullLot, x -> x.buy(1, 2), FULL);
    }

    private static void back() {
        for (int lot : NO_LOTS) {
            refused("back(" + lot + ", 1)", RefusalsTest::inWork, x -> x.back(lot, 1), UNKNOWN);
            refused("back(" + lot + ", 0)", RefusalsTest::inWork, x -> x.back(lot, 0), UNKNOWN);
            refused("back(" + lot + ", 10)", RefusalsTest::inWork, x -> x.back(lot, 10), UNKNOWN);
        }
        refused("back(0, 1), none", RefusalsTest::nothing, x -> x.back(0, 1), UNKNOWN);
        refused("back(0, 1) without lots", RefusalsTest::bare, x -> x.back(0, 1), UNKNOWN);
        for (int balls : new int[] {LOW, -1, 0, 10, HIGH}) {
            refused("back(0, " + balls + ")", RefusalsTest::withFullLot, x -> x.back(0, balls), OUTSIDE);
            refused("back(2, " + balls + "), fewer too", RefusalsTest::inWork, x -> x.back(2, balls), OUTSIDE);
        }
        refused("back(2, 1) of no balls", RefusalsTest::inWork, x -> x.back(2, 1), STATE);
        refused("back(1, 3) of two balls", RefusalsTest::withTwoLots, x -> x.back(1, 3), STATE);
        refused("back(0, 3) of two, and loose rows", RefusalsTest::inWork, x -> x.back(0, 3), STATE);
    }

    private static void knit() {
        for (int part : NO_PARTS) {
            refused("knit(" + part + ", 0, 0)", RefusalsTest::inWork, x -> x.knit(part, 0, 0), UNKNOWN);
            refused("knit(" + part + ", 2, 2), too few too", RefusalsTest::inWork, x -> x.knit(part, 2, 2), UNKNOWN);
        }
        for (int lot : NO_LOTS) {
            refused("knit(2, " + lot + ", 0)", RefusalsTest::inWork, x -> x.knit(2, lot, 0), UNKNOWN);
            refused("knit(2, 0, " + lot + ")", RefusalsTest::inWork, x -> x.knit(2, 0, lot), UNKNOWN);
            refused("knit(2, " + lot + ", " + lot + ")", RefusalsTest::inWork, x -> x.knit(2, lot, lot), UNKNOWN);
            refused("knit(0, " + lot + ", 0), knitted too", RefusalsTest::inWork, x -> x.knit(0, lot, 0), UNKNOWN);
            refused("knit(0, 0, " + lot + "), knitted too", RefusalsTest::inWork, x -> x.knit(0, 0, lot), UNKNOWN);
            refused("knit(3, 2, " + lot + "), too few too", RefusalsTest::inWork, x -> x.knit(3, 2, lot), UNKNOWN);
        }
        refused("knit(0, 0, 0), none", RefusalsTest::nothing, x -> x.knit(0, 0, 0), UNKNOWN);
        refused("knit(0, 0, 0) without lots", RefusalsTest::bare, x -> x.knit(0, 0, 0), UNKNOWN);
        refused("knit(2, 0, 2) of two", RefusalsTest::withTwoLots, x -> x.knit(2, 0, 2), UNKNOWN);
        refused("knit(0, 0, 0), knitted alone", RefusalsTest::inWork, x -> x.knit(0, 0, 0), STATE);
        refused("knit(0, 0, 1), knitted alone", RefusalsTest::inWork, x -> x.knit(0, 0, 1), STATE);
        refused("knit(1, 0, 1), knitted mixed", RefusalsTest::inWork, x -> x.knit(1, 0, 1), STATE);
        refused("knit(1, 2, 2), knitted and too few", RefusalsTest::inWork, x -> x.knit(1, 2, 2), STATE);
        refused("knit(2, 2, 2), too few", RefusalsTest::inWork, x -> x.knit(2, 2, 2), STATE);
        refused("knit(2, 2, 0), too few of the first", RefusalsTest::inWork, x -> x.knit(2, 2, 0), STATE);
        refused("knit(3, 0, 2), too few of the second", RefusalsTest::inWork, x -> x.knit(3, 0, 2), STATE);
        refused("knit(3, 2, 0), too few of the first", RefusalsTest::inWork, x -> x.knit(3, 2, 0), STATE);
    }

    private static void undo() {
        for (int part : NO_PARTS) {
            refused("undo(" + part + ")", RefusalsTest::inWork, x -> x.undo(part), UNKNOWN);
        }
        refused("undo(0), none", RefusalsTest::nothing, x -> x.undo(0), UNKNOWN);
        refused("undo(0) without lots", RefusalsTest::bare, x -> x.undo(0), STATE);
        refused("undo(2)", RefusalsTest::inWork, x -> x.undo(2), STATE);
        refused("undo(3)", RefusalsTest::inWork, x -> x.undo(3), STATE);
        refused("undo(0), undone", d -> {
            inWork(d);
            d.x.undo(0);
        }, x -> x.undo(0), STATE);
    }

    private static void gauge() {
        for (int part : NO_PARTS) {
            refused("gauge(" + part + ", 1)", RefusalsTest::inWork, x -> x.gauge(part, 1), UNKNOWN);
            refused("gauge(" + part + ", 0)", RefusalsTest::inWork, x -> x.gauge(part, 0), UNKNOWN);
            refused("gauge(" + part + ", 19)", RefusalsTest::inWork, x -> x.gauge(part, 19), UNKNOWN);
        }
        refused("gauge(0, 1), none", RefusalsTest::nothing, x -> x.gauge(0, 1), UNKNOWN);
        for (int rows : new int[] {LOW, -1, 0, 19, HIGH}) {
            refused("gauge(0, " + rows + ")", RefusalsTest::inWork, x -> x.gauge(0, rows), OUTSIDE);
            refused("gauge(1, " + rows + "), mixed too", RefusalsTest::inWork, x -> x.gauge(1, rows), OUTSIDE);
            refused("gauge(2, " + rows + "), not knitted too", RefusalsTest::inWork, x -> x.gauge(2, rows), OUTSIDE);
        }
        for (int rows : new int[] {1, 6, 18}) {
            refused("gauge(1, " + rows + "), mixed", RefusalsTest::inWork, x -> x.gauge(1, rows), STATE);
            refused("gauge(2, " + rows + "), not knitted", RefusalsTest::inWork, x -> x.gauge(2, rows), STATE);
            refused("gauge(0, " + rows + ") without lots", RefusalsTest::bare, x -> x.gauge(0, rows), STATE);
        }
        refused("gauge(0, 18): 11 of 10 rows", RefusalsTest::inWork, x -> x.gauge(0, 18), STATE);
        refused("gauge(0, 11): 2 of 1 row", RefusalsTest::withOneTold, x -> x.gauge(0, 11), STATE);
        refused("gauge(1, 8): 2 of 1 row, nothing told", RefusalsTest::withOneTold, x -> x.gauge(1, 8), STATE);
        refused("gauge(1, 18): 12 of 1 row, nothing told", RefusalsTest::withOneTold, x -> x.gauge(1, 18), STATE);
    }

    private static void wash() {
        refused("wash()", RefusalsTest::nothing, x -> x.wash(), STATE);
    }

    private static void least() {
        for (int what : new int[] {LOW, -1, 1, 9, 15, HIGH}) {
            refused("least(" + what + ")", RefusalsTest::inWork, x -> x.least(what), OUTSIDE);
            refused("least(" + what + "), none too", RefusalsTest::nothing, x -> x.least(what), OUTSIDE);
            refused("least(" + what + "), done too", RefusalsTest::withLeastDone, x -> x.least(what), OUTSIDE);
        }
        for (int what : new int[] {0, 10, 14}) {
            refused("least(" + what + "), none", RefusalsTest::nothing, x -> x.least(what), STATE);
            refused("least(" + what + "), done", RefusalsTest::withLeastDone, x -> x.least(what), STATE);
        }
    }

    private static void wanted() {
        for (int lot : NO_LOTS) {
            refused("wanted(" + lot + ", 0)", RefusalsTest::inWork, x -> x.wanted(lot, 0), UNKNOWN);
            refused("wanted(" + lot + ", 2)", RefusalsTest::inWork, x -> x.wanted(lot, 2), UNKNOWN);
            refused("wanted(" + lot + ", -1)", RefusalsTest::inWork, x -> x.wanted(lot, -1), UNKNOWN);
        }
        refused("wanted(0, 0), none", RefusalsTest::nothing, x -> x.wanted(0, 0), UNKNOWN);
        refused("wanted(0, 0) without lots", RefusalsTest::bare, x -> x.wanted(0, 0), UNKNOWN);
        for (int by : new int[] {LOW, -1, 2, HIGH}) {
            refused("wanted(0, " + by + ")", RefusalsTest::inWork, x -> x.wanted(0, by), OUTSIDE);
        }
    }

    private static void found() {
        for (int part : new int[] {LOW, -1, 3, 4, 5, HIGH}) {
            for (int seen : new int[] {-1, 0, 320, -2, 321}) {
                refused("found(" + part + ", " + seen + ")", RefusalsTest::inWork, x -> x.found(part, seen), UNKNOWN);
            }
        }
        refused("found(0, 0), none", RefusalsTest::nothing, x -> x.found(0, 0), UNKNOWN);
        for (int seen : new int[] {LOW, -2, 321, HIGH}) {
            refused("found(0, " + seen + ")", RefusalsTest::inWork, x -> x.found(0, seen), OUTSIDE);
            refused("found(2, " + seen + ")", RefusalsTest::bare, x -> x.found(2, seen), OUTSIDE);
        }
    }

    private static void fits() {
        refused("fits()", RefusalsTest::nothing, x -> x.fits(), STATE);
    }

    private static void sure() {
        for (int part : NO_PARTS) {
            refused("sure(" + part + ")", RefusalsTest::inWork, x -> x.sure(part), UNKNOWN);
        }
        refused("sure(0), none", RefusalsTest::nothing, x -> x.sure(0), UNKNOWN);
    }

    private static void years() {
        int[][] wrong = {{0, 1, 0}, {-1, 1, 0}, {31, 1, 0}, {LOW, 1, 0}, {HIGH, 1, 0}, {1, -1, 0}, {1, LOW, 0},
            {1, 1, -1}, {1, 1, 2}, {1, 1, LOW}, {1, 1, HIGH}, {0, -1, 2}};
        for (int[] of : wrong) {
            String call = "years(" + of[0] + ", " + of[1] + ", " + of[2] + ")";
            refused(call, RefusalsTest::inWork, x -> x.years(of[0], of[1], of[2]), OUTSIDE);
            refused(call + " without lots too", RefusalsTest::bare, x -> x.years(of[0], of[1], of[2]), OUTSIDE);
            refused(call + ", none too", RefusalsTest::nothing, x -> x.years(of[0], of[1], of[2]), OUTSIDE);
        }
        for (int what = 0; what <= 1; what++) {
            int asked = what;
            refused("years() without lots", RefusalsTest::bare, x -> x.years(1, 0, asked), STATE);
            refused("years(), none", RefusalsTest::nothing, x -> x.years(30, HIGH, asked), STATE);
        }
    }

    private static void image() {
        refused("image()", RefusalsTest::nothing, x -> x.image(), STATE);
    }

    private static void restore() {
        refused("restore(), none", RefusalsTest::nothing, x -> x.restore(), STATE);
        refused("restore(), none was kept", RefusalsTest::bare, x -> x.restore(), STATE);
        for (String text : new String[] {"b5,s6,s1,h4;2", "p1,p1;0"}) {
            refused("restore(), read since: " + text, d -> {
                inWork(d);
                d.read(text);
                d.lot(7, 3);
                d.x.knit(0, 0, 0);
                d.x.found(0, 4);
            }, x -> x.restore(), STATE);
        }
    }

    private static void count() {
        for (int what : new int[] {LOW, -1, 11, HIGH}) {
            refused("count(" + what + ")", RefusalsTest::inWork, x -> x.count(what), OUTSIDE);
            refused("count(" + what + "), none", RefusalsTest::nothing, x -> x.count(what), OUTSIDE);
        }
    }
}
