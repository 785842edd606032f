/** A garment knitted of several dye lots, and how much of that is seen where its parts meet. */
public final class DyeLots {
    public static final int NONE = -1, UNKNOWN = -101, OUTSIDE = -102, STATE = -103, FULL = -104;

    private static final int MOST_LETTERS = 18;
    private static final int MOST_PARTS = 5;
    private static final int FEWEST_PARTS = 2;
    private static final int MOST_LOTS = 3;
    /** Of three lots: each alone, and each two of them mixed. */
    private static final int MOST_MAKES = 6;
    private static final int MOST_SHADE = 20;
    private static final int SHADES = 21;
    private static final int PALE = 10;
    private static final int MOST_BALLS = 40;
    private static final int MOST_BOUGHT = 9;
    private static final int ROWS_OF_A_BALL = 4;
    private static final int MOST_GAUGE = 18;
    private static final int MOST_FOUND = 320;
    private static final int MOST_TIMES = 30;
    private static final int MOST_PLANNED = 20;
    private static final int FIRST_PLAN = 10;
    private static final int LAST_ABOUT = 8;
    private static final int LAST_LOT_OF = 2;
    private static final int LAST_COUNT = 10;

    private static final String KIND_LETTERS = "pbsch";
    private static final int[] LIGHTS = {2, 4, 3, 1, 0};
    private static final int ANY_PART = 0, SLEEVE = 2, CUFF = 3, HEM = 4;

    private final Page page = new Page();
    private final Work work = new Work();
    private final Work kept = new Work();
    private final Planner planner = new Planner();
    private final Guesses guesses = new Guesses();
    private final Draws draws = new Draws();
    private boolean isKept;
    private int timesRead;
    private int timesPlanned;

    public DyeLots() {
    }

    // ---- the garment

    public int letter(int code) {
        if (code < 32 || code > 126) {
            return OUTSIDE;
        }
        if (page.size >= MOST_LETTERS) {
            return FULL;
        }
        page.put(code);
        return page.size;
    }

    public int blank() {
        int had = page.size;
        page.size = 0;
        return had;
    }

    public int fault() {
        return page.firstFault();
    }

    public int garment() {
        if (!page.isWhole()) {
            return STATE;
        }
        work.begin(page);
        page.size = 0;
        isKept = false;
        timesRead++;
        return work.partCount;
    }

    public int about(int part, int what) {
        if (!work.hasPart(part)) {
            return UNKNOWN;
        }
        if (what < 0 || what > LAST_ABOUT) {
            return OUTSIDE;
        }
        return work.tellPart(part, what);
    }

    public int as(int part, int kind) {
        if (!work.hasPart(part)) {
            return UNKNOWN;
        }
        if (kind < 0 || kind >= LIGHTS.length) {
            return OUTSIDE;
        }
        return work.parts[part].isOf(kind) ? part : NONE;
    }

    // ---- lots

    public int lot(int shade) {
        if (shade < 0 || shade > MOST_SHADE) {
            return OUTSIDE;
        }
        if (work.partCount == 0) {
            return STATE;
        }
        if (work.lotCount >= MOST_LOTS) {
            return FULL;
        }
        work.lots[work.lotCount].begin(shade);
        work.lotCount++;
        return work.lotCount - 1;
    }

    public int lotOf(int lot, int what) {
        if (!work.hasLot(lot)) {
            return UNKNOWN;
        }
        if (what < 0 || what > LAST_LOT_OF) {
            return OUTSIDE;
        }
        return work.lots[lot].tell(what);
    }

    public int buy(int lot, int balls) {
        if (!work.hasLot(lot)) {
            return UNKNOWN;
        }
        if (balls < 1 || balls > MOST_BOUGHT) {
            return OUTSIDE;
        }
        Lot of = work.lots[lot];
        if (of.balls + balls > MOST_BALLS) {
            return FULL;
        }
        of.balls += balls;
        return of.balls;
    }

    public int back(int lot, int balls) {
        if (!work.hasLot(lot)) {
            return UNKNOWN;
        }
        if (balls < 1 || balls > MOST_BOUGHT) {
            return OUTSIDE;
        }
        Lot of = work.lots[lot];
        if (of.balls < balls) {
            return STATE;
        }
        of.balls -= balls;
        return of.balls;
    }

    // ---- knitting

    public int knit(int part, int a, int b) {
        if (!work.hasPart(part) || !work.hasLot(a) || !work.hasLot(b)) {
            return UNKNOWN;
        }
        if (work.parts[part].isKnitted() || !work.canMake(part, a, b)) {
            return STATE;
        }
        work.make(part, a, b);
        return work.seenOfAll();
    }

    public int undo(int part) {
        if (!work.hasPart(part)) {
            return UNKNOWN;
        }
        if (!work.parts[part].isKnitted()) {
            return STATE;
        }
        return work.unravel(part);
    }

    public int gauge(int part, int rows) {
        if (!work.hasPart(part)) {
            return UNKNOWN;
        }
        if (rows < 1 || rows > MOST_GAUGE) {
            return OUTSIDE;
        }
        Part it = work.parts[part];
        if (!work.hasLot(it.first) || it.isMixed()) {
            return STATE;
        }
        int more = rows - it.tookFirst;
        Lot of = work.lots[it.first];
        if (of.rows() < more) {
            return STATE;
        }
        of.take(more);
        it.tookFirst = rows;
        it.isTold = true;
        return more;
    }

    public int wash() {
        if (work.partCount == 0) {
            return STATE;
        }
        for (int lot = 0; lot < work.lotCount; lot++) {
            work.lots[lot].shade = faded(work.lots[lot].shade, work.fade);
        }
        return work.seenOfAll();
    }

    // ---- what would be

    public int least(int what) {
        int part = what - FIRST_PLAN;
        if (what != 0 && (what < FIRST_PLAN || part >= MOST_PARTS)) {
            return OUTSIDE;
        }
        if (work.partCount == 0 || timesPlanned >= MOST_PLANNED) {
            return STATE;
        }
        timesPlanned++;
        planner.search(work);
        if (!planner.isFound) {
            return NONE;
        }
        if (what == 0) {
            return planner.leastSeen;
        }
        return work.hasPart(part) ? planner.best[part] : NONE;
    }

    public int wanted(int lot, int by) {
        if (!work.hasLot(lot)) {
            return UNKNOWN;
        }
        if (by < 0 || by > 1) {
            return OUTSIDE;
        }
        return work.ballsWanted(lot, by == 1);
    }

    // ---- what is found

    public int found(int part, int seen) {
        if (!work.hasPart(part) || !work.hasPart(part + 1)) {
            return UNKNOWN;
        }
        if (seen < NONE || seen > MOST_FOUND) {
            return OUTSIDE;
        }
        Part it = work.parts[part];
        int before = it.foundNext;
        it.foundNext = seen;
        return before;
    }

    public int fits() {
        if (work.partCount == 0) {
            return STATE;
        }
        guesses.study(work);
        return guesses.ways();
    }

    public int sure(int part) {
        if (!work.hasPart(part)) {
            return UNKNOWN;
        }
        guesses.study(work);
        return guesses.toneOf(part);
    }

    public int years(int times, int seed, int what) {
        if (times < 1 || times > MOST_TIMES || seed < 0 || what < 0 || what > 1) {
            return OUTSIDE;
        }
        if (work.lotCount == 0) {
            return STATE;
        }
        draws.seed = seed;
        int seen = 0;
        for (int time = 0; time < times; time++) {
            seen += draws.seenInAYear(work);
        }
        return what == 0 ? seen : (int) draws.seed;
    }

    // ---- what is told of all

    public int image() {
        if (work.partCount == 0) {
            return STATE;
        }
        kept.copy(work);
        isKept = true;
        return work.knittedCount();
    }

    public int restore() {
        if (!isKept) {
            return STATE;
        }
        work.copy(kept);
        return work.knittedCount();
    }

    public int count(int what) {
        if (what < 0 || what > LAST_COUNT) {
            return OUTSIDE;
        }
        switch (what) {
            case 8:
                return page.size;
            case 9:
                return timesRead;
            case 10:
                return timesPlanned;
            default:
                return work.tellAll(what);
        }
    }

    public long digest() {
        long h = 829;
        guesses.study(work);
        for (int part = 0; part < work.partCount; part++) {
            for (int what = 0; what <= LAST_ABOUT; what++) {
                h = 31 * h + work.tellPart(part, what);
            }
            h = 31 * h + guesses.toneOf(part);
        }
        for (int lot = 0; lot < work.lotCount; lot++) {
            for (int what = 0; what <= LAST_LOT_OF; what++) {
                h = 31 * h + work.lots[lot].tell(what);
            }
            h = 31 * h + work.ballsWanted(lot, false);
            h = 31 * h + work.ballsWanted(lot, true);
        }
        if (work.partCount > 0) {
            h = 31 * h + guesses.ways();
        }
        for (int place = 0; place < page.size; place++) {
            h = 31 * h + page.codes[place];
        }
        for (int what = 0; what <= LAST_COUNT; what++) {
            h = 31 * h + count(what);
        }
        return h;
    }

    private static int faded(int shade, int fade) {
        if (shade > PALE) {
            return Math.max(PALE, shade - fade);
        }
        return Math.min(PALE, shade + fade);
    }

    /** Of one lot alone it takes all rows of it; of two the first has the odd row. */
    private static int rowsOfFirst(int rows, int a, int b) {
        return a == b ? rows : (rows + 1) / 2;
    }

    /** The letters that may become a garment. */
    private static final class Page {
        final int[] codes = new int[MOST_LETTERS];
        int size;

        void put(int code) {
            if (size < codes.length) {
                codes[size] = code;
                size++;
            }
        }

        int firstFault() {
            int end = NONE;
            for (int place = 0; place < size; place++) {
                if (!mayStand(codes[place], place, end)) {
                    return place;
                }
                if (codes[place] == ';') {
                    end = place;
                }
            }
            return size;
        }

        /** Whether a code may stand at a place; end is where ';' stood ahead of it, or NONE. */
        private static boolean mayStand(int code, int place, int end) {
            if (end != NONE) {
                return place == end + 1 && code >= '0' && code <= '3';
            }
            if (place % 3 == 0) {
                return KIND_LETTERS.indexOf((char) code) >= 0;
            }
            if (place % 3 == 1) {
                return code >= '1' && code <= '9';
            }
            int partsAhead = (place + 1) / 3;
            if (code == ',') {
                return partsAhead < MOST_PARTS;
            }
            return code == ';' && partsAhead >= FEWEST_PARTS;
        }

        boolean isWhole() {
            return size >= 2 && codes[size - 2] == ';' && firstFault() == size;
        }
    }

    private static final class Part {
        int kind;
        int rows;
        int first;
        /** NONE unless the part is mixed. */
        int second;
        int tookFirst;
        int tookSecond;
        boolean isTold;
        int foundNext;

        void begin(int itsKind, int itsRows) {
            kind = itsKind;
            rows = itsRows;
            foundNext = NONE;
            clear();
        }

        void clear() {
            first = NONE;
            second = NONE;
            tookFirst = 0;
            tookSecond = 0;
            isTold = false;
        }

        void copy(Part other) {
            kind = other.kind;
            rows = other.rows;
            first = other.first;
            second = other.second;
            tookFirst = other.tookFirst;
            tookSecond = other.tookSecond;
            isTold = other.isTold;
            foundNext = other.foundNext;
        }

        boolean isKnitted() {
            return first != NONE;
        }

        boolean isMixed() {
            return second != NONE;
        }

        boolean isOf(int asked) {
            return asked == ANY_PART || asked == kind || kind == HEM && asked == CUFF;
        }

        int light() {
            return kind >= 0 && kind < LIGHTS.length ? LIGHTS[kind] : 0;
        }
    }

    private static final class Lot {
        int shade;
        int balls;
        int loose;

        void begin(int itsShade) {
            shade = itsShade;
            balls = 0;
            loose = 0;
        }

        void copy(Lot other) {
            shade = other.shade;
            balls = other.balls;
            loose = other.loose;
        }

        int rows() {
            return ROWS_OF_A_BALL * balls + loose;
        }

        /** Takes rows that are there; fewer than none come back as loose ones. */
        void take(int wantedRows) {
            int missing = Math.max(0, wantedRows - loose);
            int begun = (missing + ROWS_OF_A_BALL - 1) / ROWS_OF_A_BALL;
            balls -= begun;
            loose += ROWS_OF_A_BALL * begun - wantedRows;
        }

        /** The first of the rows that come back is lost: answers how many were. */
        int loosen(int rowsBack) {
            if (rowsBack == 0) {
                return 0;
            }
            loose += rowsBack - 1;
            return 1;
        }

        int tell(int what) {
            switch (what) {
                case 0:
                    return shade;
                case 1:
                    return balls;
                default:
                    return loose;
            }
        }
    }

    /** The garment with its lots: all that an image keeps. */
    private static final class Work {
        final Part[] parts = new Part[MOST_PARTS];
        final Lot[] lots = new Lot[MOST_LOTS];
        int partCount;
        int lotCount;
        int fade;

        Work() {
            for (int part = 0; part < parts.length; part++) {
                parts[part] = new Part();
            }
            for (int lot = 0; lot < lots.length; lot++) {
                lots[lot] = new Lot();
            }
        }

        /** Reads a whole page: three letters a part, then the fade. */
        void begin(Page page) {
            partCount = Math.min(MOST_PARTS, (page.size - 1) / 3);
            lotCount = 0;
            for (int part = 0; part < partCount; part++) {
                int kind = KIND_LETTERS.indexOf((char) page.codes[3 * part]);
                parts[part].begin(kind, page.codes[3 * part + 1] - '0');
            }
            fade = page.codes[3 * partCount] - '0';
        }

        void copy(Work other) {
            partCount = other.partCount;
            lotCount = other.lotCount;
            fade = other.fade;
            for (int part = 0; part < MOST_PARTS; part++) {
                parts[part].copy(other.parts[part]);
            }
            for (int lot = 0; lot < MOST_LOTS; lot++) {
                lots[lot].copy(other.lots[lot]);
            }
        }

        boolean hasPart(int part) {
            return part >= 0 && part < partCount;
        }

        boolean hasLot(int lot) {
            return lot >= 0 && lot < lotCount;
        }

        boolean canMake(int part, int a, int b) {
            int rows = parts[part].rows;
            int ofFirst = rowsOfFirst(rows, a, b);
            return lots[a].rows() >= ofFirst && lots[b].rows() >= rows - ofFirst;
        }

        void make(int part, int a, int b) {
            Part it = parts[part];
            it.first = a;
            it.second = a == b ? NONE : b;
            it.tookFirst = rowsOfFirst(it.rows, a, b);
            it.tookSecond = it.rows - it.tookFirst;
            lots[a].take(it.tookFirst);
            lots[b].take(it.tookSecond);
        }

        int unravel(int part) {
            Part it = parts[part];
            int lost = 0;
            if (hasLot(it.first)) {
                lost += lots[it.first].loosen(it.tookFirst);
            }
            if (hasLot(it.second)) {
                lost += lots[it.second].loosen(it.tookSecond);
            }
            it.clear();
            return lost;
        }

        int tone(int part) {
            Part it = parts[part];
            if (!hasLot(it.first)) {
                return NONE;
            }
            int other = hasLot(it.second) ? it.second : it.first;
            return lots[it.first].shade + lots[other].shade;
        }

        /** What would be seen between a part and the next one, were their tones these. */
        int seenWith(int part, int tone, int nextTone) {
            if (!hasPart(part) || !hasPart(part + 1)) {
                return 0;
            }
            Part it = parts[part];
            Part next = parts[part + 1];
            int seen = Math.abs(tone - nextTone) * Math.min(it.light(), next.light());
            return it.kind == SLEEVE && next.kind == SLEEVE ? 2 * seen : seen;
        }

        int seenNext(int part) {
            if (!hasPart(part) || !hasPart(part + 1)) {
                return 0;
            }
            if (!parts[part].isKnitted() || !parts[part + 1].isKnitted()) {
                return 0;
            }
            return seenWith(part, tone(part), tone(part + 1));
        }

        int seenOfAll() {
            int seen = 0;
            for (int part = 0; part < partCount; part++) {
                seen += seenNext(part);
            }
            return seen;
        }

        int knittedCount() {
            int knitted = 0;
            for (int part = 0; part < partCount; part++) {
                if (parts[part].isKnitted()) {
                    knitted++;
                }
            }
            return knitted;
        }

        int foundCount() {
            int meetings = 0;
            for (int part = 0; part < partCount; part++) {
                if (parts[part].foundNext != NONE) {
                    meetings++;
                }
            }
            return meetings;
        }

        int sumOfLots(int what) {
            int sum = 0;
            for (int lot = 0; lot < lotCount; lot++) {
                sum += lots[lot].tell(what);
            }
            return sum;
        }

        int ballsWanted(int lot, boolean byGauge) {
            int open = 0;
            int told = 0;
            int rowsOfTold = 0;
            for (int part = 0; part < partCount; part++) {
                Part it = parts[part];
                if (!it.isKnitted()) {
                    open += it.rows;
                } else if (it.isTold) {
                    told += it.tookFirst;
                    rowsOfTold += it.rows;
                }
            }
            if (byGauge && rowsOfTold > 0) {
                open = (open * told + rowsOfTold - 1) / rowsOfTold;
            }
            int missing = Math.max(0, open - lots[lot].rows());
            return (missing + ROWS_OF_A_BALL - 1) / ROWS_OF_A_BALL;
        }

        int tellPart(int part, int what) {
            Part it = parts[part];
            switch (what) {
                case 0:
                    return it.kind;
                case 1:
                    return it.rows;
                case 2:
                    return it.light();
                case 3:
                    return it.first;
                case 4:
                    return it.second;
                case 5:
                    return tone(part);
                case 6:
                    return seenNext(part);
                case 7:
                    return it.tookFirst + it.tookSecond;
                default:
                    return it.foundNext;
            }
        }

        int tellAll(int what) {
            switch (what) {
                case 0:
                    return partCount;
                case 1:
                    return fade;
                case 2:
                    return lotCount;
                case 3:
                    return knittedCount();
                case 4:
                    return seenOfAll();
                case 5:
                    return sumOfLots(1);
                case 6:
                    return sumOfLots(2);
                default:
                    return foundCount();
            }
        }
    }

    /** Looks for the plan by which least is seen, in the order of the plans' numbers. */
    private static final class Planner {
        final int[] plan = new int[MOST_PARTS];
        final int[] best = new int[MOST_PARTS];
        final int[] tones = new int[MOST_PARTS];
        final int[] left = new int[MOST_LOTS];
        boolean isFound;
        int leastSeen;

        void search(Work work) {
            isFound = false;
            leastSeen = 0;
            for (int lot = 0; lot < work.lotCount; lot++) {
                left[lot] = work.lots[lot].rows();
            }
            choose(this, work, 0, 0);
        }

        /** Tries all for this part and those behind it; what is seen ahead of it never becomes less. */
        private static void choose(Planner at, Work work, int part, int seen) {
            if (at.isFound && seen >= at.leastSeen) {
                return;
            }
            if (part >= work.partCount || part >= MOST_PARTS) {
                at.keep(seen);
                return;
            }
            if (work.parts[part].isKnitted()) {
                at.plan[part] = NONE;
                goOn(at, work, part, work.tone(part), seen);
                return;
            }
            for (int a = 0; a < work.lotCount; a++) {
                for (int b = 0; b < work.lotCount; b++) {
                    chooseOf(at, work, part, a, b, seen);
                }
            }
        }

        private static void chooseOf(Planner at, Work work, int part, int a, int b, int seen) {
            int rows = work.parts[part].rows;
            int ofFirst = rowsOfFirst(rows, a, b);
            int ofSecond = rows - ofFirst;
            if (at.left[a] < ofFirst || at.left[b] < ofSecond) {
                return;
            }
            at.left[a] -= ofFirst;
            at.left[b] -= ofSecond;
            at.plan[part] = 4 * a + b;
            goOn(at, work, part, work.lots[a].shade + work.lots[b].shade, seen);
            at.left[a] += ofFirst;
            at.left[b] += ofSecond;
        }

        private static void goOn(Planner at, Work work, int part, int tone, int seen) {
            at.tones[part] = tone;
            int more = part > 0 ? work.seenWith(part - 1, at.tones[part - 1], tone) : 0;
            choose(at, work, part + 1, seen + more);
        }

        private void keep(int seen) {
            isFound = true;
            leastSeen = seen;
            System.arraycopy(plan, 0, best, 0, MOST_PARTS);
        }
    }

    /** In how many ways the parts could be made so that all that is found would be seen. */
    private static final class Guesses {
        final int[] tones = new int[MOST_MAKES];
        /** By part and make: the ways of the parts ahead of it, and of those behind it. */
        final int[][] ahead = new int[MOST_PARTS][MOST_MAKES];
        final int[][] behind = new int[MOST_PARTS][MOST_MAKES];
        int makes;
        int partCount;

        void study(Work work) {
            partCount = work.partCount;
            listMakes(work);
            for (int part = 0; part < partCount; part++) {
                countAhead(work, part);
            }
            for (int part = partCount - 1; part >= 0; part--) {
                countBehind(work, part);
            }
        }

        private void listMakes(Work work) {
            makes = 0;
            for (int a = 0; a < work.lotCount; a++) {
                for (int b = a; b < work.lotCount && makes < MOST_MAKES; b++) {
                    tones[makes] = work.lots[a].shade + work.lots[b].shade;
                    makes++;
                }
            }
        }

        private void countAhead(Work work, int part) {
            for (int make = 0; make < makes; make++) {
                int sum = part == 0 ? 1 : 0;
                for (int other = 0; part > 0 && other < makes; other++) {
                    if (mayMeet(work, part - 1, other, make)) {
                        sum += ahead[part - 1][other];
                    }
                }
                ahead[part][make] = sum;
            }
        }

        private void countBehind(Work work, int part) {
            boolean isLast = part + 1 >= partCount;
            for (int make = 0; make < makes; make++) {
                int sum = isLast ? 1 : 0;
                for (int other = 0; !isLast && other < makes; other++) {
                    if (mayMeet(work, part, make, other)) {
                        sum += behind[part + 1][other];
                    }
                }
                behind[part][make] = sum;
            }
        }

        private boolean mayMeet(Work work, int part, int make, int nextMake) {
            int due = work.parts[part].foundNext;
            return due == NONE || due == work.seenWith(part, tones[make], tones[nextMake]);
        }

        int ways() {
            int sum = 0;
            for (int make = 0; partCount > 0 && make < makes; make++) {
                sum += behind[0][make];
            }
            return sum;
        }

        int toneOf(int part) {
            int tone = NONE;
            for (int make = 0; make < makes; make++) {
                if (ahead[part][make] > 0 && behind[part][make] > 0) {
                    if (tone != NONE && tone != tones[make]) {
                        return NONE;
                    }
                    tone = tones[make];
                }
            }
            return tone;
        }
    }

    /** What years would bring: it never touches the work itself. */
    private static final class Draws {
        final int[] shades = new int[MOST_LOTS];
        long seed;

        private int draw(int of) {
            seed = (1103515245L * seed + 12345L) & 0x7fffffffL;
            return of > 0 ? (int) (seed / 65536L % of) : 0;
        }

        int seenInAYear(Work work) {
            for (int lot = 0; lot < work.lotCount; lot++) {
                shades[lot] = faded(draw(SHADES), work.fade);
            }
            int seen = 0;
            int toneBefore = 0;
            for (int part = 0; part < work.partCount; part++) {
                int tone = 2 * shades[draw(work.lotCount)];
                if (part > 0) {
                    seen += work.seenWith(part - 1, toneBefore, tone);
                }
                toneBefore = tone;
            }
            return seen;
        }
    }
}
