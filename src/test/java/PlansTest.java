/**
 * The sentences of "Terms" on PLANS, on what is WANTED and on what is FOUND that name a boundary, each in a test of
 * its own, at the case itself and next to it on either side. The name of a run is the sentence.
 */
public final class PlansTest {
    private static final int NONE = DyeLots.NONE;

    public static void main(String[] args) {
        fourTimesALotAndALot();
        ofItAloneOrMixed();
        rowsEnoughForAll();
        rowsOfBothEnoughForAll();
        noneOfTheSecondIsEnough();
        seenIsLeast();
        leastBesideWhatIsKnitted();
        allKnittedNoPlan();
        allKnittedButOne();
        ofLikeOnesTheFirst();
        firstPartByPart();
        notTheFirstIfLessIsSeen();
        noPlan();
        ballsMoreRoundedUp();
        wantedForAllNotKnitted();
        byGaugeRoundedUp();
        byGaugeOfThoseTold();
        byGaugeNothingIsTold();
        gaugeThatTellsNoMoreIsTold();
        whichIsFirstDoesNotMatter();
        norRowsNorWhatIsKnitted();
        allThatIsFoundWouldBe();
        foundOfTheMostUnlike();
        foundAndNothingAnyMore();
        fitsByPartsAndLots();
        sureIfItIsOne();
        sureThoughInSeveralWays();
        sureByAllThatIsFound();
        sureIfNothingFits();
        Due.end();
    }

    /** Of a PART of one row, the first LOT alone has any: only so the TONE of PART 0 is met. */
    private static void fourTimesALotAndALot() {
        int[] shades = {0, 1, 4};
        for (int a = 0; a < 3; a++) {
            for (int b = 0; b < 3; b++) {
                Due d = Due.of("4 times a LOT, and a LOT, together: " + a + ", " + b, "b1,b1;0");
                for (int lot = 0; lot < 3; lot++) {
                    d.lot(shades[lot], lot == a ? 1 : 0);
                }
                d.is("knit(0, a, b)", d.x.knit(0, a, b), 0);
                d.is("least(0)", d.x.least(0), 0);
                d.is("least(11)", d.x.least(11), 4 * a + b);
                d.is("knit(1, a, b) by it", d.x.knit(1, a, b), 0);
            }
        }
    }

    private static void ofItAloneOrMixed() {
        Due d = Due.of("MIXED of them; the same: of it alone", "b2,b2;0");
        d.lot(6, 1);
        d.lot(9, 1);
        d.x.knit(0, 0, 1);
        d.is("least(0): MIXED as PART 0", d.x.least(0), 0);
        d.is("least(11): MIXED", d.x.least(11), 1);
        d.x.undo(0);
        d.x.knit(0, 1, 1);
        d.lotIs(1, 0, 1);
        d.is("least(0): alone it would take two", d.x.least(0), 3 * 4);
        d.is("least(11): MIXED it takes one", d.x.least(11), 1);
        d.x.buy(1, 1);
        d.is("least(0): alone", d.x.least(0), 0);
        d.is("least(11): alone", d.x.least(11), 5);
    }

    private static void rowsEnoughForAll() {
        for (int there = 7; there <= 9; there++) {
            Due d = Due.of("so that there are rows enough for all: 8 of " + there, "p1,b3,b5;0");
            d.looseLot(5, 0, there);
            d.is("least(0)", d.x.least(0), there < 8 ? NONE : 0);
            d.is("least(11)", d.x.least(11), there < 8 ? NONE : 0);
            d.is("least(12)", d.x.least(12), there < 8 ? NONE : 0);
            d.lotIs(0, 0, there);
        }
        for (int balls = 1; balls <= 3; balls++) {
            Due d = Due.of("so that there are rows enough for all: 8 of so many BALLS: " + balls, "b3,b5;0");
            d.lot(5, balls);
            d.is("least(0)", d.x.least(0), balls < 2 ? NONE : 0);
            d.is("least(11)", d.x.least(11), balls < 2 ? NONE : 0);
            d.lotIs(0, balls, 0);
        }
    }

    /** Two bodies of 3 rows take all 6 that there are; the hem ahead of them shows nothing. */
    private static void rowsOfBothEnoughForAll() {
        int[] seen = {0, 12, 0, 0, 0, 12, 0};
        int[] plans = {5, 4, 4, 1, 1, 0, 0};
        int[] nextPlans = {5, 5, 4, 4, 1, 1, 0};
        for (int ofFirst = 0; ofFirst <= 6; ofFirst++) {
            Due d = Due.of("rows enough for all, of both LOTS: " + ofFirst + " of the first", "p1,h1,b3,b3;0");
            d.looseLot(10, 1, ofFirst);
            d.looseLot(13, 0, 6 - ofFirst);
            d.is("least(0)", d.x.least(0), seen[ofFirst]);
            d.is("least(12)", d.x.least(12), plans[ofFirst]);
            d.is("least(13)", d.x.least(13), nextPlans[ofFirst]);
        }
        for (int ofFirst = 0; ofFirst <= 5; ofFirst++) {
            Due d = Due.of("rows one too few for all, of both LOTS: " + ofFirst + " of the first", "p1,h1,b3,b3;0");
            d.looseLot(10, 1, ofFirst);
            d.looseLot(13, 0, 5 - ofFirst);
            d.is("least(0)", d.x.least(0), NONE);
            d.is("least(12)", d.x.least(12), NONE);
        }
    }

    private static void noneOfTheSecondIsEnough() {
        for (int rows = 1; rows <= 2; rows++) {
            Due d = Due.of("of the second perhaps none, by a PLAN too: " + rows + " rows", "b1,b" + rows + ";0");
            d.lot(10, 1);
            d.lot(12, 0);
            d.x.knit(0, 0, 1);
            d.is("least(0)", d.x.least(0), rows == 1 ? 0 : 2 * 4);
            d.is("least(11)", d.x.least(11), rows == 1 ? 1 : 0);
        }
    }

    private static void seenIsLeast() {
        Due d = Due.of("the PLAN by which all that is SEEN is least", "b4,h1,b4,s4,s4;0");
        d.lot(10, 2);
        d.lot(11, 1);
        d.lot(12, 2);
        int due = leastOfAllWays(new int[] {4, 1, 4, 4, 4}, new int[] {0, 0, 3, 6}, new int[] {10, 11, 12},
                new int[] {8, 4, 8});
        d.is("least(0)", d.x.least(0), due);
        int[] plans = new int[5];
        for (int part = 0; part < 5; part++) {
            plans[part] = d.x.least(10 + part);
        }
        int seen = NONE;
        for (int part = 0; part < 5; part++) {
            seen = d.x.knit(part, plans[part] / 4, plans[part] % 4);
        }
        d.is("what is SEEN, knitted by it", seen, due);
    }

    private static int leastOfAllWays(int[] rows, int[] lights, int[] shades, int[] there) {
        int best = Integer.MAX_VALUE;
        for (int way = 0; way < 9 * 9 * 9 * 9 * 9; way++) {
            int[] left = there.clone();
            int seen = 0;
            int before = 0;
            for (int part = 0, rest = way; part < 5; part++, rest /= 9) {
                int a = rest % 9 / 3;
                int b = rest % 3;
                left[a] -= a == b ? rows[part] : rows[part] - rows[part] / 2;
                left[b] -= a == b ? 0 : rows[part] / 2;
                seen += part == 0 ? 0 : lights[part - 1] * Math.abs(shades[a] + shades[b] - before);
                before = shades[a] + shades[b];
            }
            if (left[0] >= 0 && left[1] >= 0 && left[2] >= 0) {
                best = Math.min(best, seen);
            }
        }
        return best;
    }

    private static void leastBesideWhatIsKnitted() {
        Due d = Due.of("A PLAN tells for each PART that is not KNITTED", "b1,b1,b1;0");
        d.lot(4, 9);
        d.lot(10, 9);
        d.x.knit(0, 1, 1);
        d.x.knit(2, 0, 0);
        // Each tone from 8 to 20 would do, so the first by numbers is told.
        d.is("least(0)", d.x.least(0), 12 * 4);
        d.is("least(10)", d.x.least(10), NONE);
        d.is("least(11)", d.x.least(11), 0);
        d.is("least(12)", d.x.least(12), NONE);
        d.is("count(4): it only would be", d.x.count(4), 0);
        d.is("count(3): it only would be", d.x.count(3), 2);
    }

    private static void allKnittedNoPlan() {
        Due d = Due.of("all KNITTED: what is SEEN, no PLAN", "b1,b1;0");
        d.lot(4, 1);
        d.lot(10, 1);
        d.x.knit(0, 0, 0);
        d.x.knit(1, 1, 1);
        d.is("least(0)", d.x.least(0), 12 * 4);
        for (int what = 10; what <= 14; what++) {
            d.is("least(" + what + ")", d.x.least(what), NONE);
        }
        d.x.gauge(0, 4);
        d.x.gauge(1, 4);
        d.is("rows that are left", d.x.count(5) + d.x.count(6), 0);
        d.is("least(0) without any rows", d.x.least(0), 12 * 4);
    }

    private static void allKnittedButOne() {
        for (int part = 0; part < 3; part++) {
            Due d = Due.of("all KNITTED but PART " + part, "b1,b1,b1;0");
            d.lot(4, 1);
            for (int other = 0; other < 3; other++) {
                if (other != part) {
                    d.x.knit(other, 0, 0);
                }
            }
            d.is("least(0)", d.x.least(0), 0);
            for (int what = 10; what <= 14; what++) {
                d.is("least(" + what + ")", d.x.least(what), what == 10 + part ? 0 : NONE);
            }
        }
    }

    private static void ofLikeOnesTheFirst() {
        int[][] balls = {{9, 9, 9}, {2, 0, 0}, {1, 9, 9}, {1, 1, 0}, {1, 0, 9}, {1, 0, 1}, {0, 9, 9}, {0, 2, 0},
            {0, 1, 9}, {0, 1, 1}, {0, 0, 9}, {0, 0, 2}, {0, 0, 1}, {0, 1, 0}, {1, 0, 0}, {0, 0, 0}};
        int[] due = {0, 0, 1, 1, 2, 2, 5, 5, 6, 6, 10, 10, NONE, NONE, NONE, NONE};
        for (int at = 0; at < balls.length; at++) {
            Due d = Due.of("of like ones the first by numbers, case " + at, "b8,p1;0");
            d.looseLot(5, 1, 0);
            d.x.lot(5);
            d.x.lot(5);
            for (int lot = 0; lot < 3; lot++) {
                d.x.buy(lot, balls[at][lot]);
            }
            d.is("least(0)", d.x.least(0), due[at] == NONE ? NONE : 0);
            d.is("least(10)", d.x.least(10), due[at]);
        }
    }

    private static void firstPartByPart() {
        int[][] balls = {{1, 1, 1}, {2, 1, 0}, {1, 2, 0}, {0, 1, 2}, {0, 2, 1}, {3, 0, 0}, {0, 3, 0}, {0, 0, 3},
            {1, 0, 2}, {2, 0, 1}};
        int[][] due = {{0, 5, 10}, {0, 0, 5}, {0, 5, 5}, {5, 10, 10}, {5, 5, 10}, {0, 0, 0}, {5, 5, 5}, {10, 10, 10},
            {0, 10, 10}, {0, 0, 10}};
        for (int at = 0; at < balls.length; at++) {
            Due d = Due.of("of like ones the first by numbers (PART by PART), case " + at, "b4,b4,b4;0");
            for (int lot = 0; lot < 3; lot++) {
                d.lot(7, balls[at][lot]);
            }
            for (int part = 0; part < 3; part++) {
                d.is("least(" + (10 + part) + ")", d.x.least(10 + part), due[at][part]);
            }
        }
    }

    private static void notTheFirstIfLessIsSeen() {
        for (int shade = 9; shade <= 11; shade++) {
            Due d = Due.of("the first of like ones alone: SHADES 10 and " + shade, "b2,b2;0");
            d.lot(10, 9);
            d.lot(shade, 9);
            d.x.knit(0, 1, 1);
            d.is("least(0)", d.x.least(0), 0);
            d.is("least(11)", d.x.least(11), shade == 10 ? 0 : 5);
        }
        Due d = Due.of("the first of like ones alone: one more is SEEN by the first", "c1,c9,h1;0");
        d.looseLot(11, 2, 3);
        d.lot(12, 9);
        d.is("least(0): both of lot 1", d.x.least(0), 0);
        d.is("least(10)", d.x.least(10), 5);
        d.is("least(11)", d.x.least(11), 5);
    }

    private static void noPlan() {
        Due d = Due.of("LEAST: none", "b5,p1,p1,p1;0");
        d.is("least(0) without LOTS", d.x.least(0), NONE);
        d.is("least(10) without LOTS", d.x.least(10), NONE);
        d.x.lot(3);
        d.is("least(0) without rows", d.x.least(0), NONE);
        for (int ofFirst = 2; ofFirst <= 3; ofFirst++) {
            Due three = Due.of("LEAST: none of more than two LOTS, " + ofFirst + " rows of the first", "p1,p1,p1,b5;0");
            three.looseLot(3, 0, ofFirst);
            three.looseLot(3, 1, 2);
            three.looseLot(3, 2, 2);
            three.is("least(0)", three.x.least(0), ofFirst == 2 ? NONE : 0);
            three.is("least(13)", three.x.least(13), ofFirst == 2 ? NONE : 1);
        }
    }

    private static void ballsMoreRoundedUp() {
        int[] due = {3, 2, 2, 2, 2, 1, 1, 1, 1, 0, 0, 0, 0, 0};
        for (int loose = 0; loose < due.length; loose++) {
            Due d = Due.of("how many BALLS more: 9 rows with " + loose, "p1,p9;0");
            d.looseLot(5, 0, loose);
            d.is("wanted(0, 0)", d.x.wanted(0, 0), due[loose]);
            d.x.buy(0, 1);
            d.is("wanted(0, 0) with a BALL", d.x.wanted(0, 0), Math.max(0, due[loose] - 1));
            d.is("knit(1, 0, 0) with a BALL", d.x.knit(1, 0, 0) == 0 ? 1 : 0, due[loose] <= 1 ? 1 : 0);
        }
    }

    private static void wantedForAllNotKnitted() {
        for (int rows = 1; rows <= 9; rows++) {
            Due d = Due.of("so that all PARTS that are not KNITTED can be of it alone: " + rows,
                    ("p" + rows + ",").repeat(4) + "b" + rows + ";0");
            d.lot(5, 18);
            d.lot(6, 0);
            for (int open = 5; open >= 0; open--) {
                d.is("wanted(1, 0) for " + open, d.x.wanted(1, 0), (open * rows + 3) / 4);
                d.is("wanted(1, 1) for " + open, d.x.wanted(1, 1), (open * rows + 3) / 4);
                d.x.knit(open - 1, 0, 0);
            }
        }
    }

    private static void byGaugeRoundedUp() {
        for (int rows = 1; rows <= 9; rows++) {
            for (int told = 1; told <= 18; told++) {
                for (int open = 1; open <= 9; open++) {
                    Due d = Due.of("times all rows told by GAUGE, by ROWS of those (rounded up): " + open + " times "
                            + told + " by " + rows, "p" + rows + ",p" + open + ";0");
                    d.lot(5, 6);
                    d.lot(5, 0);
                    d.x.knit(0, 0, 0);
                    d.x.gauge(0, told);
                    int due = 0;
                    while (due * rows < open * told) {
                        due++;
                    }
                    d.is("wanted(1, 1)", d.x.wanted(1, 1), (due + 3) / 4);
                    d.is("wanted(1, 0)", d.x.wanted(1, 0), (open + 3) / 4);
                    d.is("wanted(0, 1)", d.x.wanted(0, 1), Math.max(0, due - 24 + told + 3) / 4);
                }
            }
        }
        Due d = Due.of("rounded up: 35 by 8 are 5 rows, 32 by 8 are 4", "p8,p5;0");
        d.lot(5, 6);
        d.lot(5, 0);
        d.x.knit(0, 0, 0);
        d.x.gauge(0, 7);
        d.is("wanted(1, 1) of 4 rows and a bit", d.x.wanted(1, 1), 2);
        d.x.gauge(0, 6);
        d.is("wanted(1, 1) of 3 rows and a bit", d.x.wanted(1, 1), 1);
    }

    private static void byGaugeOfThoseTold() {
        Due d = Due.of("all rows told by GAUGE of PARTS that are KNITTED, by ROWS of those", "p4,p4,p4,p4,p9;0");
        d.lot(5, 20);
        d.lot(5, 0);
        d.x.lot(5);
        d.x.knit(0, 0, 0);
        d.x.gauge(0, 8);
        d.x.knit(2, 0, 0);
        d.x.gauge(2, 4);
        d.is("wanted(1, 1): 17 by 12 by 8 are 26 rows", d.x.wanted(1, 1), 7);
        d.x.knit(1, 0, 0);
        d.is("wanted(1, 1): 13 by 12 by 8 are 20 rows", d.x.wanted(1, 1), 5);
        d.x.buy(2, 1);
        d.x.knit(3, 0, 2);
        d.is("wanted(1, 1): 9 by 12 by 8 are 14 rows, MIXED ones are not told", d.x.wanted(1, 1), 4);
        d.x.gauge(2, 5);
        d.is("wanted(1, 1): what is told last: 9 by 13 by 8 are 15 rows", d.x.wanted(1, 1), 4);
        d.x.gauge(2, 7);
        d.is("wanted(1, 1): 9 by 15 by 8 are 17 rows", d.x.wanted(1, 1), 5);
        d.x.gauge(1, 1);
        d.is("wanted(1, 1): 9 by 16 by 12 are 12 rows", d.x.wanted(1, 1), 3);
    }

    private static void byGaugeNothingIsTold() {
        Due d = Due.of("if nothing is told, just ROWS", "p1,p4,p9;0");
        d.lot(5, 9);
        d.lot(5, 0);
        d.is("wanted(1, 1): nothing is KNITTED", d.x.wanted(1, 1), 4);
        d.x.knit(0, 0, 0);
        d.is("wanted(1, 1): nothing is told of it", d.x.wanted(1, 1), 4);
        d.x.gauge(0, 2);
        d.is("wanted(1, 1): it is told", d.x.wanted(1, 1), 7);
        d.is("wanted(1, 0): by ROWS all the same", d.x.wanted(1, 0), 4);
        d.x.undo(0);
        d.is("wanted(1, 1): nothing is told any more", d.x.wanted(1, 1), 4);
    }

    private static void gaugeThatTellsNoMoreIsTold() {
        Due d = Due.of("GAUGE told of as many rows as it has", "p4,p4,p9;0");
        d.lot(5, 9);
        d.lot(5, 0);
        d.x.knit(0, 0, 0);
        d.x.gauge(0, 8);
        d.x.knit(1, 0, 0);
        d.is("wanted(1, 1): 9 by 8 by 4 are 18 rows", d.x.wanted(1, 1), 5);
        d.is("gauge(1, 4)", d.x.gauge(1, 4), 0);
        d.is("wanted(1, 1): 9 by 12 by 8 are 14 rows", d.x.wanted(1, 1), 4);
    }

    private static void whichIsFirstDoesNotMatter() {
        Due d = Due.of("which is first does not matter", "b1,b1;0");
        d.x.lot(0);
        d.x.lot(5);
        d.is("fits(): three makes each", d.x.fits(), 3 * 3);
        d.x.found(0, 0);
        d.is("fits(): three alike", d.x.fits(), 3);
        d.x.found(0, 20);
        d.is("fits(): of one and of both, four in all", d.x.fits(), 4);
        d.x.found(0, 40);
        d.is("fits(): of one and of the other", d.x.fits(), 2);
    }

    private static void norRowsNorWhatIsKnitted() {
        Due d = Due.of("nor how many rows there are, nor what is KNITTED", "b9,b1,b1;0");
        d.x.lot(0);
        d.x.lot(5);
        d.x.found(0, 40);
        d.x.found(1, 20);
        d.is("fits() without rows", d.x.fits(), 2);
        d.is("sure(2) without rows", d.x.sure(2), 5);
        d.x.buy(0, 9);
        d.x.buy(1, 9);
        d.is("fits() with rows", d.x.fits(), 2);
        d.x.knit(0, 0, 0);
        d.x.knit(1, 1, 1);
        d.x.knit(2, 0, 0);
        d.is("fits() with what is KNITTED", d.x.fits(), 2);
        d.is("sure(0) of what is KNITTED", d.x.sure(0), NONE);
        d.is("sure(2) of what is KNITTED otherwise", d.x.sure(2), 5);
    }

    private static void allThatIsFoundWouldBe() {
        int[] due = {9, 3, 0, 0, 0, 4, 0, 0, 0, 2, 0, 0, 0, 0};
        for (int seen = NONE; seen <= 12; seen++) {
            Due d = Due.of("in how many ways all that is FOUND would be", "b1,b1;0");
            d.x.lot(0);
            d.x.lot(1);
            d.x.found(0, seen);
            d.is("fits() of " + seen, d.x.fits(), due[seen + 1]);
        }
        Due d = Due.of("all that is FOUND would be, not this or that", "b1,b1,b1;0");
        d.x.lot(0);
        d.x.lot(1);
        d.x.found(0, 8);
        d.is("fits() by the first meeting", d.x.fits(), 2 * 3);
        d.x.found(1, 8);
        d.is("fits() by both meetings", d.x.fits(), 2);
        d.x.found(1, 12);
        d.is("fits() if one of them cannot be", d.x.fits(), 0);
    }

    private static void foundOfTheMostUnlike() {
        int[] seen = {239, 240, 241, 319, 320, 0};
        int[] due = {0, 2, 0, 0, 0, 3};
        for (int at = 0; at < seen.length; at++) {
            Due d = Due.of("FOUND: how much would be SEEN between SLEEVES of 0 and 40", "s1,s1;0");
            d.x.lot(0);
            d.x.lot(20);
            d.x.found(0, seen[at]);
            d.is("fits() of " + seen[at], d.x.fits(), due[at]);
        }
    }

    private static void foundAndNothingAnyMore() {
        Due d = Due.of("FOUND (NONE: nothing any more)", "b1,b1;0");
        d.x.lot(0);
        d.x.lot(5);
        d.is("found(0, 0)", d.x.found(0, 0), NONE);
        d.is("fits()", d.x.fits(), 3);
        d.is("count(7)", d.x.count(7), 1);
        d.is("found(0, NONE)", d.x.found(0, NONE), 0);
        d.is("fits()", d.x.fits(), 9);
        d.is("count(7)", d.x.count(7), 0);
        d.is("about(0, 8)", d.x.about(0, 8), NONE);
    }

    private static void fitsByPartsAndLots() {
        int[] makes = {0, 1, 3, 6};
        for (int parts = 2; parts <= 5; parts++) {
            for (int alike = 0; alike <= 1; alike++) {
                Due d = Due.of("each PART is of one LOT that there is, or MIXED of two: " + parts + " PARTS",
                        "p1" + ",s1".repeat(parts - 1) + ";0");
                for (int lots = 0; lots <= 3; lots++) {
                    int due = 1;
                    for (int part = 0; part < parts; part++) {
                        due *= makes[lots];
                    }
                    d.is("fits() of " + lots + " LOTS", d.x.fits(), due);
                    d.x.lot(alike == 1 ? 4 : 4 + lots);
                }
            }
        }
    }

    private static void sureIfItIsOne() {
        Due d = Due.of("SURE: the TONE of a PART, if it is one in all these", "b1,b1,b1;0");
        d.x.lot(0);
        d.is("sure(0) of one LOT: TONE 0", d.x.sure(0), 0);
        d.is("sure(2) of one LOT: TONE 0", d.x.sure(2), 0);
        d.x.lot(5);
        d.is("sure(0) of two LOTS", d.x.sure(0), NONE);
        d.x.lot(20);
        // The tones are 0, 5, 10, 20, 25 and 40.
        d.x.found(0, 4 * 40);
        d.x.found(1, 4 * 35);
        d.is("fits(): 0, 40, 5", d.x.fits(), 1);
        d.is("sure(0)", d.x.sure(0), 0);
        d.is("sure(1)", d.x.sure(1), 40);
        d.is("sure(2)", d.x.sure(2), 5);
        d.x.found(1, 4 * 20);
        d.is("fits(): 0, 40, 20 and 40, 0, 20", d.x.fits(), 2);
        d.is("sure(0)", d.x.sure(0), NONE);
        d.is("sure(1)", d.x.sure(1), NONE);
        d.is("sure(2)", d.x.sure(2), 20);
    }

    private static void sureThoughInSeveralWays() {
        Due d = Due.of("SURE, though several ways have this TONE", "b1,b1,b1;0");
        d.x.lot(4);
        d.x.lot(6);
        d.x.lot(8);
        d.x.found(0, 4 * 8);
        d.x.found(1, 4 * 4);
        d.is("fits(): 12 is of 4 and 8, or of 6 alone", d.x.fits(), 4);
        d.is("sure(2)", d.x.sure(2), 12);
        d.is("sure(1)", d.x.sure(1), NONE);
        Due same = Due.of("SURE of LOTS that are alike", "b1,b1;1");
        same.x.lot(9);
        same.x.lot(9);
        same.x.lot(10);
        same.is("sure(0)", same.x.sure(0), NONE);
        same.x.wash();
        same.is("fits()", same.x.fits(), 36);
        same.is("sure(0) when all is 10", same.x.sure(0), 20);
    }

    private static void sureByAllThatIsFound() {
        Due d = Due.of("SURE by what is FOUND ahead of it and behind it", "b1,b1,b1,b1,b1;0");
        d.x.lot(0);
        d.x.lot(5);
        d.x.lot(20);
        int[] seen = {4 * 40, 4 * 35, 0, 0};
        for (int part = 0; part < 4; part++) {
            d.x.found(part, seen[part]);
        }
        int[] due = {0, 40, 5, 5, 5};
        for (int part = 0; part < 5; part++) {
            d.is("sure(" + part + ")", d.x.sure(part), due[part]);
        }
        d.x.found(3, NONE);
        d.is("sure(4): it may be any", d.x.sure(4), NONE);
        d.is("sure(3)", d.x.sure(3), 5);
        d.x.found(0, NONE);
        d.is("sure(0): it may be any", d.x.sure(0), NONE);
        d.is("sure(1): 35 apart are 40 and 5 alone", d.x.sure(1), NONE);
        d.is("fits(): 40 and 5, or 5 and 40", d.x.fits(), 6 * 2 * 6);
    }

    private static void sureIfNothingFits() {
        Due d = Due.of("SURE: NONE if nothing fits", "b1,b1,h1;0");
        d.is("sure(0) without LOTS", d.x.sure(0), NONE);
        d.x.lot(0);
        d.is("sure(0)", d.x.sure(0), 0);
        for (int part = 0; part < 2; part++) {
            d.x.found(part, 1);
            for (int other = 0; other < 3; other++) {
                d.is("sure(" + other + ") if a meeting cannot be", d.x.sure(other), NONE);
            }
            d.is("fits()", d.x.fits(), 0);
            d.x.found(part, 0);
            d.is("fits() of 0", d.x.fits(), 1);
        }
    }
}
