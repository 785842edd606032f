import java.math.BigInteger;

/**
 * The sentences of "What it is" and "Terms" that name a boundary (those of plans and of what is found are in
 * PlansTest), each in a test of its own, at the case itself and next to it on either side. The name of a run is
 * the sentence.
 */
public final class TermsTest {
    private static final int NONE = DyeLots.NONE, UNKNOWN = DyeLots.UNKNOWN, OUTSIDE = DyeLots.OUTSIDE,
            STATE = DyeLots.STATE, FULL = DyeLots.FULL;
    private static final String KINDS = "pbsch";
    private static final int[] LIGHTS = {2, 4, 3, 1, 0};

    public static void main(String[] args) {
        twoToFiveParts();
        signsAtEachPlace();
        digitsAreRowsAndFade();
        eachMeetsTheNext();
        fiveHundredAndTwelveCalls();
        lightOfEachKind();
        aHemIsACuffToo();
        threeLotsAtMost();
        shadeZeroToTwenty();
        fourRowsABall();
        looseOnesFirst();
        onlyBallsAreTakenBack();
        ofOneLotByAllRows();
        halfOfRowsRoundedUp();
        mixedThoughOfOneRow();
        tooFewOfOne();
        tooFewOfTheFirst();
        tooFewOfTheSecond();
        toneAsShadesAreNow();
        oneOfEachLotIsLost();
        undoneAfterGauge();
        whatGaugeToldGoesToo();
        gaugeOneToEighteen();
        gaugeTakesLooseFirst();
        gaugeOfTooFew();
        seenIfBothAreKnitted();
        seenByTonesAndLights();
        washedToTen();
        drawsOfYears();
        drawsGoThroughAllNumbers();
        yearsAreWashedOnce();
        imageKeeps();
        imageKeepsNotTheRest();
        lotsSinceAreGone();
        Due.end();
    }

    private static void twoToFiveParts() {
        int[] faults = {2, 7, 10, 13, 16, 14};
        for (int parts = 1; parts <= 6; parts++) {
            String text = "p1" + ",p1".repeat(parts - 1) + ";0";
            Due d = new Due("two to five PARTS: " + text);
            d.type(text);
            boolean may = parts >= 2 && parts <= 5;
            d.is("fault()", d.x.fault(), faults[parts - 1]);
            d.is("garment()", d.x.garment(), may ? parts : STATE);
            d.is("count(0)", d.x.count(0), may ? parts : 0);
            d.is("about(" + (parts - 1) + ", 1)", d.x.about(parts - 1, 1), may ? 1 : UNKNOWN);
            d.is("about(" + parts + ", 1)", d.x.about(parts, 1), UNKNOWN);
        }
    }

    /** All letters that THE PAGE can have, behind these: only some of them can stand there. */
    private static void signsBehind(String ahead, String allowed) {
        for (int code = 32; code <= 126; code++) {
            Due d = new Due("each a letter, the KIND, and a digit ROWS; then ';' and a digit FADE");
            d.type(ahead);
            d.x.letter(code);
            boolean may = allowed.indexOf(code) >= 0;
            d.is("fault() of " + ahead + (char) code, d.x.fault(), ahead.length() + (may ? 1 : 0));
            boolean isWhole = ahead.endsWith(";") && may;
            d.is("garment() of " + ahead + (char) code, d.x.garment(), isWhole ? ahead.length() / 3 : STATE);
        }
    }

    private static void signsAtEachPlace() {
        String ahead = "";
        for (int parts = 1; parts <= 5; parts++) {
            signsBehind(ahead, KINDS);
            signsBehind(ahead + "b", "123456789");
            signsBehind(ahead + "b7", parts == 1 ? "," : parts == 5 ? ";" : ",;");
            if (parts >= 2) {
                signsBehind(ahead + "b7;", "0123");
                signsBehind(ahead + "b7;3", "");
            }
            ahead += "b7,";
        }
    }

    private static void digitsAreRowsAndFade() {
        for (int rows = 1; rows <= 9; rows++) {
            for (int fade = 0; fade <= 3; fade++) {
                Due d = Due.of("a digit ROWS (1 to 9), a digit FADE (0 to 3)", "p5,b" + rows + ";" + fade);
                d.is("about(0, 1)", d.x.about(0, 1), 5);
                d.is("about(1, 1)", d.x.about(1, 1), rows);
                d.is("count(1)", d.x.count(1), fade);
            }
        }
    }

    private static void eachMeetsTheNext() {
        Due d = Due.of("each meets the next one", "b1,b1,b1,b1,b1;0");
        d.lot(0, 2);
        d.lot(1, 2);
        d.lot(3, 2);
        int[] lots = {0, 1, 2, 1, 1};
        int[] seen = {2 * 4, 4 * 4, 4 * 4, 0, 0};
        int sum = 0;
        for (int part = 0; part < 5; part++) {
            sum += part == 0 ? 0 : seen[part - 1];
            d.is("knit(" + part + ")", d.x.knit(part, lots[part], lots[part]), sum);
        }
        for (int part = 0; part < 5; part++) {
            d.is("about(" + part + ", 6)", d.x.about(part, 6), seen[part]);
        }
        Due two = Due.of("each meets the next one: the last meets none", "b1,b1;0");
        two.lot(0, 1);
        two.lot(1, 1);
        two.x.knit(0, 0, 0);
        two.is("knit(1, 1, 1)", two.x.knit(1, 1, 1), 8);
        two.is("about(0, 6)", two.x.about(0, 6), 8);
        two.is("about(1, 6)", two.x.about(1, 6), 0);
    }

    private static void fiveHundredAndTwelveCalls() {
        Due d = new Due("at most 512 calls after it has been made");
        DyeLots x = d.x;
        d.type("b3,s4;2");
        x.garment();
        x.lot(3);
        x.buy(0, 9);
        x.knit(0, 0, 0);
        long digest = x.digest();
        d.is("fault(), call 13", x.fault(), 0);
        int calls = 13;
        for (; calls < 511; calls += 3) {
            d.is("image(), call " + (calls + 1), x.image(), 1);
            d.is("undo(0), call " + (calls + 2), x.undo(0), 1);
            d.is("restore(), call " + (calls + 3), x.restore(), 1);
        }
        d.is("calls so far", calls, 511);
        d.is("digest(), call 512", x.digest(), digest);
    }

    private static void lightOfEachKind() {
        for (int kind = 0; kind < 5; kind++) {
            for (int other = 0; other < 5; other++) {
                Due d = Due.of("LIGHT of a PART is 2, of a BODY 4, of a SLEEVE 3, of a CUFF 1, of a HEM 0",
                        KINDS.charAt(kind) + "1," + KINDS.charAt(other) + "1;0");
                d.is("about(0, 0)", d.x.about(0, 0), kind);
                d.is("about(1, 0)", d.x.about(1, 0), other);
                d.is("about(0, 2)", d.x.about(0, 2), LIGHTS[kind]);
                d.is("about(1, 2)", d.x.about(1, 2), LIGHTS[other]);
            }
        }
    }

    private static void aHemIsACuffToo() {
        String[] such = {"0", "01", "02", "03", "034"};
        for (int kind = 0; kind < 5; kind++) {
            Due d = Due.of("All are PARTS; a HEM is a CUFF, too", "p1,b1," + KINDS.charAt(kind) + "1;0");
            for (int asked = 0; asked < 5; asked++) {
                boolean is = such[kind].indexOf('0' + asked) >= 0;
                d.is("as(2, " + asked + ") of KIND " + kind, d.x.as(2, asked), is ? 2 : NONE);
            }
        }
    }

    private static void threeLotsAtMost() {
        Due d = Due.of("LOTS (3 at most, numbered)", "p1,p1;0");
        for (int lot = 0; lot < 3; lot++) {
            d.is("lotOf(" + lot + ", 0), not there yet", d.x.lotOf(lot, 0), UNKNOWN);
            d.is("count(2)", d.x.count(2), lot);
            d.is("lot(" + (5 + lot) + ")", d.x.lot(5 + lot), lot);
            d.is("lotOf(" + lot + ", 0)", d.x.lotOf(lot, 0), 5 + lot);
        }
        d.is("lot(8), the fourth", d.x.lot(8), FULL);
        d.is("lotOf(3, 0)", d.x.lotOf(3, 0), UNKNOWN);
        d.is("count(2)", d.x.count(2), 3);
        d.read("p1,p1;0");
        d.is("lot(9) of another GARMENT", d.x.lot(9), 0);
    }

    private static void shadeZeroToTwenty() {
        for (int shade = -2; shade <= 22; shade++) {
            Due d = Due.of("a SHADE (0 to 20)", "p1,p1;0");
            boolean may = shade >= 0 && shade <= 20;
            d.is("lot(" + shade + ")", d.x.lot(shade), may ? 0 : OUTSIDE);
            d.is("lotOf(0, 0)", d.x.lotOf(0, 0), may ? shade : UNKNOWN);
            d.is("count(2)", d.x.count(2), may ? 1 : 0);
        }
    }

    private static void fourRowsABall() {
        for (int balls = 0; balls <= 3; balls++) {
            for (int rows = 1; rows <= 9; rows++) {
                Due d = Due.of("BALLS that are whole (4 rows each)", "p" + rows + ",p1;0");
                d.lot(5, balls);
                boolean may = rows <= 4 * balls;
                d.is("knit() of " + rows + " rows by " + balls + " balls", d.x.knit(0, 0, 0), may ? 0 : STATE);
                int begun = (may ? rows + 3 : 0) / 4;
                d.lotIs(0, balls - begun, may ? 4 * begun - rows : 0);
            }
        }
    }

    private static void looseOnesFirst() {
        for (int loose = 0; loose <= 11; loose++) {
            for (int rows = 1; rows <= 9; rows++) {
                Due d = Due.of("of LOOSE ones, as long as there are any; then a BALL is begun, and so on: " + rows
                        + " rows, " + loose + " of them loose", "p1,p" + rows + ";0");
                d.looseLot(5, 0, loose);
                d.x.buy(0, 3);
                d.is("knit(1, 0, 0)", d.x.knit(1, 0, 0), 0);
                int balls = 3;
                int left = loose;
                for (int row = 0; row < rows; row++) {
                    balls -= left == 0 ? 1 : 0;
                    left = left == 0 ? 3 : left - 1;
                }
                d.lotIs(0, balls, left);
            }
        }
    }

    private static void onlyBallsAreTakenBack() {
        Due d = Due.of("BALLS are BOUGHT, and taken BACK", "p1,p1;0");
        d.looseLot(5, 0, 9);
        d.is("back(0, 1): loose rows are no BALL", d.x.back(0, 1), STATE);
        d.is("buy(0, 2)", d.x.buy(0, 2), 2);
        d.is("back(0, 3)", d.x.back(0, 3), STATE);
        d.is("back(0, 2)", d.x.back(0, 2), 0);
        d.lotIs(0, 0, 9);
    }

    private static void ofOneLotByAllRows() {
        for (int rows = 1; rows <= 9; rows++) {
            Due d = Due.of("of one LOT, by as many rows as ROWS", "p" + rows + ",p1;0");
            d.lot(5, 1);
            d.lot(7, 3);
            d.x.knit(0, 1, 1);
            d.is("about(0, 3)", d.x.about(0, 3), 1);
            d.is("about(0, 4)", d.x.about(0, 4), NONE);
            d.is("about(0, 7)", d.x.about(0, 7), rows);
            d.is("rows that are left", 4 * d.x.lotOf(1, 1) + d.x.lotOf(1, 2), 12 - rows);
            d.lotIs(0, 1, 0);
        }
    }

    private static void halfOfRowsRoundedUp() {
        int[] ofFirst = {1, 1, 2, 2, 3, 3, 4, 4, 5};
        int[] ofSecond = {0, 1, 1, 2, 2, 3, 3, 4, 4};
        for (int rows = 1; rows <= 9; rows++) {
            Due d = Due.of("MIXED of the first by half of ROWS, rounded up: " + rows + " rows", "p" + rows + ",p1;0");
            d.lot(5, 9);
            d.lot(7, 9);
            d.lot(8, 9);
            d.x.knit(0, 2, 1);
            d.is("left of the first", 4 * d.x.lotOf(2, 1) + d.x.lotOf(2, 2), 36 - ofFirst[rows - 1]);
            d.is("left of the second", 4 * d.x.lotOf(1, 1) + d.x.lotOf(1, 2), 36 - ofSecond[rows - 1]);
            d.is("about(0, 7)", d.x.about(0, 7), rows);
            d.is("about(0, 3)", d.x.about(0, 3), 2);
            d.is("about(0, 4)", d.x.about(0, 4), 1);
            d.lotIs(0, 9, 0);
        }
    }

    private static void mixedThoughOfOneRow() {
        for (int rows = 1; rows <= 3; rows++) {
            Due d = Due.of("perhaps none; it is MIXED of both all the same: " + rows + " rows", "p" + rows + ",p1;0");
            d.lot(5, 1);
            d.lot(9, 0);
            boolean may = rows == 1;
            d.is("knit(0, 0, 1) with none of the second", d.x.knit(0, 0, 1), may ? 0 : STATE);
            d.is("about(0, 3)", d.x.about(0, 3), may ? 0 : NONE);
            d.is("about(0, 4)", d.x.about(0, 4), may ? 1 : NONE);
            d.is("about(0, 5)", d.x.about(0, 5), may ? 14 : NONE);
            d.is("gauge(0, 1)", d.x.gauge(0, 1), STATE);
            d.is("undo(0)", d.x.undo(0), may ? 1 : STATE);
            d.is("count(6)", d.x.count(6), may ? 3 : 0);
        }
    }

    private static void tooFewOfOne() {
        for (int rows = 1; rows <= 9; rows++) {
            for (int there = rows - 1; there <= rows + 1; there++) {
                Due d = Due.of("If there are too few, it cannot: " + rows + " of " + there, "p1,p" + rows + ";0");
                d.looseLot(5, 0, there);
                boolean may = there >= rows;
                d.is("knit(1, 0, 0)", d.x.knit(1, 0, 0), may ? 0 : STATE);
                d.is("about(1, 7)", d.x.about(1, 7), may ? rows : 0);
                d.lotIs(0, 0, may ? there - rows : there);
            }
        }
    }

    private static void tooFewOfTheFirst() {
        for (int rows = 1; rows <= 9; rows++) {
            int half = rows - rows / 2;
            for (int there = half - 1; there <= half + 1; there++) {
                Due d = Due.of("If there are too few of the first: " + half + " of " + there, "p1,p" + rows + ";0");
                d.looseLot(5, 0, there);
                d.lot(5, 9);
                boolean may = there >= half;
                d.is("knit(1, 0, 1)", d.x.knit(1, 0, 1), may ? 0 : STATE);
                d.lotIs(0, 0, may ? there - half : there);
                d.is("count(3)", d.x.count(3), may ? 2 : 1);
                d.is("left of the second", 4 * d.x.lotOf(1, 1) + d.x.lotOf(1, 2), may ? 36 - rows / 2 : 36);
            }
        }
    }

    private static void tooFewOfTheSecond() {
        for (int rows = 2; rows <= 9; rows++) {
            int half = rows / 2;
            for (int there = half - 1; there <= half + 1; there++) {
                Due d = Due.of("If there are too few of the second: " + half + " of " + there, "p1,p" + rows + ";0");
                d.looseLot(5, 0, there);
                d.lot(5, 9);
                boolean may = there >= half;
                d.is("knit(1, 1, 0)", d.x.knit(1, 1, 0), may ? 0 : STATE);
                d.lotIs(0, 0, may ? there - half : there);
                d.is("count(3)", d.x.count(3), may ? 2 : 1);
                d.is("left of the first", 4 * d.x.lotOf(1, 1) + d.x.lotOf(1, 2), may ? 36 - rows + half : 36);
            }
        }
    }

    private static void toneAsShadesAreNow() {
        Due d = Due.of("twice the SHADE of its LOT, or both SHADES together (as they are now)", "p1,p2,p1,p2;3");
        d.lot(0, 9);
        d.lot(20, 9);
        d.lot(11, 9);
        d.x.knit(0, 0, 0);
        d.x.knit(1, 1, 0);
        d.x.knit(2, 1, 1);
        d.x.knit(3, 2, 0);
        int[][] due = {{0, 20, 40, 11}, {6, 20, 34, 13}, {12, 20, 28, 16}, {18, 20, 22, 19}, {20, 20, 20, 20}};
        for (int washed = 0; washed < due.length; washed++) {
            for (int part = 0; part < 4; part++) {
                d.is("about(" + part + ", 5), washed " + washed, d.x.about(part, 5), due[washed][part]);
            }
            d.x.wash();
        }
    }

    private static void oneOfEachLotIsLost() {
        for (int rows = 1; rows <= 9; rows++) {
            Due d = Due.of("LOOSE again, but one of each LOT of which it took any: " + rows, "p" + rows + ",p1;0");
            d.lot(5, 9);
            d.lot(7, 9);
            d.x.knit(0, 0, 0);
            int left = d.x.lotOf(0, 2);
            d.is("undo(0) of one LOT", d.x.undo(0), 1);
            d.is("loose", d.x.lotOf(0, 2), left + rows - 1);
            d.is("rows in all", 4 * d.x.lotOf(0, 1) + d.x.lotOf(0, 2), 35);
            d.x.knit(0, 0, 1);
            d.is("undo(0) of two", d.x.undo(0), rows == 1 ? 1 : 2);
            d.is("rows of the first", 4 * d.x.lotOf(0, 1) + d.x.lotOf(0, 2), 34);
            d.is("rows of the second", 4 * d.x.lotOf(1, 1) + d.x.lotOf(1, 2), rows == 1 ? 36 : 35);
            d.is("about(0, 3)", d.x.about(0, 3), NONE);
            d.is("undo(0) again", d.x.undo(0), STATE);
        }
    }

    private static void undoneAfterGauge() {
        for (int rows = 1; rows <= 18; rows++) {
            Due d = Due.of("all rows that it took, but one, GAUGE " + rows, "p4,p1;0");
            d.lot(5, 5);
            d.x.knit(0, 0, 0);
            d.x.gauge(0, rows);
            int left = d.x.lotOf(0, 2);
            d.is("undo(0)", d.x.undo(0), 1);
            d.is("loose", d.x.lotOf(0, 2), left + rows - 1);
            d.is("rows in all", 4 * d.x.lotOf(0, 1) + d.x.lotOf(0, 2), 19);
        }
    }

    /** Beside another PART of which twice its ROWS are told, so that it shows whether 8 rows more are. */
    private static void whatGaugeToldGoesToo() {
        Due d = Due.of("what GAUGE told of it goes, too", "p8,p2,p8;0");
        d.lot(5, 20);
        d.lot(5, 0);
        d.x.lot(5);
        d.x.buy(2, 2);
        d.x.knit(1, 0, 0);
        d.x.gauge(1, 4);
        d.is("wanted(1, 1): 16 rows by 2", d.x.wanted(1, 1), 8);
        d.x.knit(0, 0, 0);
        d.is("wanted(1, 1): 8 rows by 2", d.x.wanted(1, 1), 4);
        d.x.gauge(0, 9);
        d.is("wanted(1, 1): 8 rows by 13 by 10", d.x.wanted(1, 1), 3);
        d.x.undo(0);
        d.is("wanted(1, 1): 16 rows by 2 again", d.x.wanted(1, 1), 8);
        d.x.knit(0, 0, 0);
        d.is("wanted(1, 1): KNITTED again, of it nothing is told", d.x.wanted(1, 1), 4);
        d.x.gauge(0, 9);
        d.x.undo(0);
        d.x.knit(0, 0, 2);
        d.is("wanted(1, 1): MIXED now, of it nothing is told", d.x.wanted(1, 1), 4);
        d.x.undo(1);
        d.x.knit(1, 0, 0);
        d.is("wanted(1, 1): nothing is told any more", d.x.wanted(1, 1), 2);
    }

    private static void gaugeOneToEighteen() {
        for (int rows = -1; rows <= 20; rows++) {
            Due d = Due.of("how many rows it took in truth (1 to 18)", "p4,p1;0");
            d.lot(5, 6);
            d.x.knit(0, 0, 0);
            boolean may = rows >= 1 && rows <= 18;
            d.is("gauge(0, " + rows + ")", d.x.gauge(0, rows), may ? rows - 4 : OUTSIDE);
            d.is("about(0, 7)", d.x.about(0, 7), may ? rows : 4);
            d.is("about(0, 1)", d.x.about(0, 1), 4);
            d.is("rows that are left", 4 * d.x.lotOf(0, 1) + d.x.lotOf(0, 2), may ? 24 - rows : 20);
        }
    }

    private static void gaugeTakesLooseFirst() {
        for (int loose = 0; loose <= 6; loose++) {
            for (int rows = 1; rows <= 12; rows++) {
                Due d = Due.of("more, or less, is taken now (of LOOSE ones first), or LOOSE again: from 5 to " + rows
                        + " with " + loose, "p1,p5;0");
                d.looseLot(5, 0, loose + 5);
                d.x.knit(1, 0, 0);
                d.x.buy(0, 2);
                d.is("gauge(1, " + rows + ")", d.x.gauge(1, rows), rows - 5);
                int balls = 2;
                int left = loose + Math.max(0, 5 - rows);
                for (int row = 5; row < rows; row++) {
                    balls -= left == 0 ? 1 : 0;
                    left = left == 0 ? 3 : left - 1;
                }
                d.lotIs(0, balls, left);
            }
        }
    }

    private static void gaugeOfTooFew() {
        for (int there = 0; there <= 4; there++) {
            for (int more = there - 1; more <= there + 1; more++) {
                Due d = Due.of("GAUGE, of too few: " + more + " more of " + there, "p1,p5;0");
                d.looseLot(5, 0, there + 5);
                d.x.knit(1, 0, 0);
                boolean may = more <= there;
                d.is("gauge(1, " + (5 + more) + ")", d.x.gauge(1, 5 + more), may ? more : STATE);
                d.lotIs(0, 0, may ? there - more : there);
                d.is("about(1, 7)", d.x.about(1, 7), may ? 5 + more : 5);
            }
        }
    }

    private static void seenIfBothAreKnitted() {
        Due d = Due.of("SEEN between a PART and the next one, if both are KNITTED", "b1,b1,b1;0");
        d.lot(2, 9);
        d.lot(7, 9);
        int[][] due = {{0, 0}, {0, 0}, {0, 0}, {40, 0}, {0, 0}, {0, 0}, {0, 40}, {40, 40}};
        for (int which = 0; which < 8; which++) {
            for (int part = 0; part < 3; part++) {
                boolean is = (which >> part) % 2 == 1;
                d.x.undo(part);
                if (is) {
                    d.x.knit(part, part == 1 ? 1 : 0, part == 1 ? 1 : 0);
                }
                d.x.buy(part == 1 ? 1 : 0, 1);
            }
            for (int part = 0; part < 2; part++) {
                d.is("about(" + part + ", 6) of " + which, d.x.about(part, 6), due[which][part]);
            }
            d.is("count(4) of " + which, d.x.count(4), due[which][0] + due[which][1]);
        }
    }

    private static void seenByTonesAndLights() {
        for (int kind = 0; kind < 5; kind++) {
            for (int next = 0; next < 5; next++) {
                int times = Math.min(LIGHTS[kind], LIGHTS[next]) * (kind == 2 && next == 2 ? 2 : 1);
                for (int shade = 8; shade <= 12; shade++) {
                    Due d = Due.of("as much as their TONES are unlike, times the lesser LIGHT; twice between SLEEVES",
                            KINDS.charAt(kind) + "2," + KINDS.charAt(next) + "2;0");
                    d.lot(10, 9);
                    d.lot(shade, 9);
                    int apart = Math.abs(10 - shade);
                    d.x.knit(0, 0, 0);
                    d.is("knit(1, 1, 1)", d.x.knit(1, 1, 1), 2 * apart * times);
                    d.is("about(0, 6)", d.x.about(0, 6), 2 * apart * times);
                    d.x.undo(1);
                    d.is("knit(1, 0, 1)", d.x.knit(1, 0, 1), apart * times);
                }
            }
        }
    }

    private static void washedToTen() {
        int[][] due = {
            {0, 1, 2, 3, 4, 5, 6, 7, 8, 9, 10, 11, 12, 13, 14, 15, 16, 17, 18, 19, 20},
            {1, 2, 3, 4, 5, 6, 7, 8, 9, 10, 10, 10, 11, 12, 13, 14, 15, 16, 17, 18, 19},
            {2, 3, 4, 5, 6, 7, 8, 9, 10, 10, 10, 10, 10, 11, 12, 13, 14, 15, 16, 17, 18},
            {3, 4, 5, 6, 7, 8, 9, 10, 10, 10, 10, 10, 10, 10, 11, 12, 13, 14, 15, 16, 17}};
        for (int fade = 0; fade <= 3; fade++) {
            for (int shade = 0; shade <= 20; shade++) {
                Due d = Due.of("above 10 FADE less (10 at least), below 10 FADE more (10 at most): " + fade,
                        "b1,b1;" + fade);
                d.lot(10, 1);
                d.lot(shade, 1);
                d.x.knit(0, 0, 0);
                d.x.knit(1, 1, 1);
                d.is("wash() of " + shade, d.x.wash(), 8 * Math.abs(due[fade][shade] - 10));
                d.is("lotOf(1, 0) of " + shade, d.x.lotOf(1, 0), due[fade][shade]);
                d.is("lotOf(0, 0)", d.x.lotOf(0, 0), 10);
            }
        }
    }

    private static BigInteger after(BigInteger seed) {
        return seed.multiply(BigInteger.valueOf(1103515245)).add(BigInteger.valueOf(12345))
                .mod(BigInteger.TWO.pow(31));
    }

    private static int drawn(BigInteger seed, int of) {
        return seed.divide(BigInteger.valueOf(65536)).mod(BigInteger.valueOf(of)).intValueExact();
    }

    /** So many DRAWS a year as there are LOTS and PARTS, even if one LOT alone can be drawn. */
    private static void drawsOfYears() {
        for (int lots = 1; lots <= 3; lots++) {
            for (int parts = 2; parts <= 5; parts++) {
                Due d = Due.of("DRAWS: the next SEED each time: " + lots + " LOTS, " + parts + " PARTS",
                        "p1" + ",p1".repeat(parts - 1) + ";0");
                for (int lot = 0; lot < lots; lot++) {
                    d.x.lot(lot);
                }
                BigInteger seed = BigInteger.valueOf(31);
                for (int times = 1; times <= 30; times++) {
                    for (int draws = 0; draws < lots + parts; draws++) {
                        seed = after(seed);
                    }
                    d.is("years(" + times + ", 31, 1)", d.x.years(times, 31, 1), seed.intValueExact());
                }
            }
        }
    }

    private static void drawsGoThroughAllNumbers() {
        int[] seeds = {0, 1, 2, 65535, 65536, 65537, 1 << 30, Integer.MAX_VALUE - 1, Integer.MAX_VALUE};
        for (int at = 0; at < seeds.length + 60; at++) {
            int first = at < seeds.length ? seeds[at] : 1000003 * at;
            for (int lots = 1; lots <= 3; lots++) {
                Due d = Due.of("a SHADE by a DRAW of 21, a LOT by a DRAW of how many there are", "p1,p1;0");
                BigInteger seed = BigInteger.valueOf(first);
                int[] shades = new int[lots];
                for (int lot = 0; lot < lots; lot++) {
                    d.x.lot(10);
                    seed = after(seed);
                    shades[lot] = drawn(seed, 21);
                }
                seed = after(seed);
                int shade = shades[drawn(seed, lots)];
                seed = after(seed);
                int next = shades[drawn(seed, lots)];
                d.is("years(1, " + first + ", 0)", d.x.years(1, first, 0), 2 * Math.abs(2 * shade - 2 * next));
                d.is("years(1, " + first + ", 1)", d.x.years(1, first, 1), seed.intValueExact());
                d.is("years are as they would be", d.x.lotOf(0, 0) + d.x.count(3), 10);
            }
        }
    }

    private static void yearsAreWashedOnce() {
        for (int fade = 0; fade <= 3; fade++) {
            for (int first = 0; first < 40; first++) {
                Due d = Due.of("it is all WASHED once: FADE " + fade, "b1,b1;" + fade);
                d.x.lot(0);
                d.x.lot(0);
                int[] tones = new int[2];
                int[] shades = new int[2];
                int sum = 0;
                BigInteger seed = BigInteger.valueOf(first);
                for (int year = 1; year <= 3; year++) {
                    for (int draw = 0; draw < 4; draw++) {
                        seed = after(seed);
                        if (draw < 2) {
                            shades[draw] = drawn(seed, 21);
                        } else {
                            int shade = shades[drawn(seed, 2)];
                            int toTen = Math.min(fade, Math.abs(shade - 10));
                            tones[draw - 2] = 2 * (shade > 10 ? shade - toTen : shade + toTen);
                        }
                    }
                    sum += 4 * Math.abs(tones[0] - tones[1]);
                    d.is("years(" + year + ", " + first + ", 0)", d.x.years(year, first, 0), sum);
                }
            }
        }
    }

    /** A change of what an IMAGE keeps. */
    private interface Change {
        long on(DyeLots x);
    }

    private static Due imaged(String run) {
        Due d = Due.of(run, "b5,s6,s2,c9;2");
        d.lot(4, 9);
        d.lot(17, 4);
        d.x.knit(0, 0, 0);
        d.x.knit(1, 0, 1);
        d.x.knit(2, 1, 1);
        d.x.gauge(2, 5);
        d.x.found(0, 33);
        d.is("wanted(1, 0)", d.x.wanted(1, 0), 1);
        d.is("wanted(1, 1): what GAUGE told shows", d.x.wanted(1, 1), 4);
        return d;
    }

    private static void keptThrough(String what, Change change) {
        Due d = imaged("An IMAGE keeps " + what);
        var before = Look.at(d.x);
        d.is("image()", d.x.image(), 3);
        d.same("image() changes nothing", Look.at(d.x), before);
        d.is("it is changed", change.on(d.x) > UNKNOWN ? 1 : 0, 1);
        d.is("restore()", d.x.restore(), 3);
        d.same("after restore()", Look.at(d.x), before);
        d.is("it is changed again", change.on(d.x) > UNKNOWN ? 1 : 0, 1);
        d.is("restore() again", d.x.restore(), 3);
        d.is("digest() again", d.x.digest(), Long.parseLong(before.get(before.size() - 1).substring(11)));
    }

    private static void imageKeeps() {
        keptThrough("how many LOTS there are", x -> x.lot(9));
        keptThrough("SHADES", x -> x.wash());
        keptThrough("BALLS that are bought", x -> x.buy(1, 3));
        keptThrough("BALLS that are taken back", x -> x.back(0, 3));
        keptThrough("LOOSE rows", x -> x.gauge(0, 4));
        keptThrough("what is KNITTED", x -> x.knit(3, 1, 0));
        keptThrough("what is UNDONE", x -> x.undo(0));
        keptThrough("what is MIXED", x -> x.undo(1));
        keptThrough("of what", x -> Math.min(x.undo(0), x.knit(0, 1, 1)));
        keptThrough("of which second", x -> Math.min(x.undo(1), x.knit(1, 0, 0)));
        keptThrough("by how many rows", x -> x.gauge(2, 6));
        keptThrough("GAUGE that is told", x -> Math.min(x.undo(2), x.knit(2, 1, 1)));
        keptThrough("GAUGE that is not told", x -> x.gauge(0, 5));
        keptThrough("FOUND", x -> x.found(0, NONE));
        keptThrough("FOUND of another", x -> x.found(2, 0));
    }

    private static void imageKeepsNotTheRest() {
        Due d = imaged("An IMAGE keeps no more than that");
        d.type("p1");
        d.x.least(0);
        d.x.image();
        d.type(",c2");
        d.x.least(0);
        d.is("restore()", d.x.restore(), 3);
        d.is("count(8)", d.x.count(8), 5);
        d.is("count(9)", d.x.count(9), 1);
        d.is("count(10)", d.x.count(10), 2);
        d.type(";3");
        d.is("garment() of p1,c2;3", d.x.garment(), 2);
        d.is("about(1, 0)", d.x.about(1, 0), 3);
    }

    private static void lotsSinceAreGone() {
        for (int kept = 0; kept <= 3; kept++) {
            for (int since = 0; since + kept <= 3; since++) {
                Due d = Due.of("those that come since are gone by restore(): " + since + " behind " + kept, "p1,p1;0");
                for (int lot = 0; lot < kept; lot++) {
                    d.lot(3 + lot, 1 + lot);
                }
                d.x.image();
                for (int lot = 0; lot < since; lot++) {
                    d.lot(13 + lot, 9);
                }
                d.x.knit(0, kept + since - 1, kept + since - 1);
                d.is("restore()", d.x.restore(), 0);
                d.is("count(2)", d.x.count(2), kept);
                d.is("lotOf(" + kept + ", 0)", d.x.lotOf(kept, 0), UNKNOWN);
                d.is("lot(20)", d.x.lot(20), kept == 3 ? FULL : kept);
                for (int lot = 0; lot <= kept && lot < 3; lot++) {
                    d.is("shade of " + lot, d.x.lotOf(lot, 0), lot == kept ? 20 : 3 + lot);
                    d.lotIs(lot, lot == kept ? 0 : 1 + lot, 0);
                }
            }
        }
    }
}
