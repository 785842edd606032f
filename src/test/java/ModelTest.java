import java.util.ArrayList;
import java.util.List;
import java.util.Random;

/**
 * Long runs of drawn calls, each answer held against a model that is written anew from the document's
 * words and tries all ways one by one, where the program takes short cuts.
 */
public final class ModelTest {
    private static final int RUNS = 700;
    /** What is promised of one object. */
    private static final int CALLS = 512;
    /** A garment typed (blank, 16 letters, fault, garment), a letter with its fault, a digest. */
    private static final int CALLS_OF_A_STEP = 19 + 2 + 1;

    private final Random random;
    private final Due due;
    private final DyeLots x;
    private final Model model = new Model();

    private ModelTest(int run) {
        random = new Random(829 + run);
        due = new Due("drawn run " + run);
        x = due.x;
    }

    public static void main(String[] args) {
        for (int run = 0; run < RUNS; run++) {
            new ModelTest(run).play();
        }
        Due.end();
    }

    private void play() {
        typeGarment();
        while (due.answers() + CALLS_OF_A_STEP <= CALLS) {
            if (random.nextInt(60) == 0) {
                typeGarment();
            }
            callOnce(random.nextInt(26));
            if (random.nextInt(16) == 0) {
                due.is("digest()", x.digest(), model.digest());
            }
        }
    }

    private void typeGarment() {
        StringBuilder text = new StringBuilder();
        int parts = 2 + random.nextInt(4);
        boolean fewRows = random.nextBoolean();
        for (int part = 0; part < parts; part++) {
            text.append(part == 0 ? "" : ",").append("pbssch".charAt(random.nextInt(6)));
            text.append(1 + random.nextInt(fewRows ? 3 : 9));
        }
        text.append(";").append(random.nextInt(4));
        if (random.nextInt(6) == 0) {
            text.setCharAt(random.nextInt(text.length()), "pbsch0123456789,;x ".charAt(random.nextInt(19)));
        }
        due.is("blank()", x.blank(), model.blank());
        for (int at = 0; at < text.length(); at++) {
            due.is("letter()", x.letter(text.charAt(at)), model.letter(text.charAt(at)));
        }
        due.is("fault() of " + text, x.fault(), model.fault());
        due.is("garment() of " + text, x.garment(), model.garment());
    }

    /** Mostly a number from 0 to most, at times one about its edges. */
    private int upTo(int most) {
        int chance = random.nextInt(40);
        return chance == 0 ? -1 : chance == 1 ? most + 1 : random.nextInt(most + 1);
    }

    private int part() {
        return upTo(Math.max(0, model.parts.size() - 1));
    }

    private int lot() {
        return upTo(Math.max(0, model.lots.size() - 1));
    }

    private void callOnce(int call) {
        if (call < 9) {
            callFirstHalf(call, part(), lot(), lot());
        } else if (call < 18) {
            callSecondHalf(call, part(), lot());
        } else {
            callOften(call, part(), lot(), lot());
        }
    }

    private void callFirstHalf(int call, int part, int a, int b) {
        switch (call) {
            case 0: {
                int code = "pbsch0123456789,; ".charAt(random.nextInt(18)) + (random.nextInt(9) == 0 ? 60 : 0);
                due.is("letter(" + code + ")", x.letter(code), model.letter(code));
                due.is("fault()", x.fault(), model.fault());
                break;
            }
            case 1: {
                int what = upTo(8);
                due.is("about(" + part + ", " + what + ")", x.about(part, what), model.about(part, what));
                break;
            }
            case 2: {
                int kind = upTo(4);
                due.is("as(" + part + ", " + kind + ")", x.as(part, kind), model.as(part, kind));
                break;
            }
            case 3:
            case 4: {
                int shade = random.nextBoolean() ? upTo(20) : 8 + random.nextInt(5);
                due.is("lot(" + shade + ")", x.lot(shade), model.lot(shade));
                break;
            }
            case 5: {
                int what = upTo(2);
                due.is("lotOf(" + a + ", " + what + ")", x.lotOf(a, what), model.lotOf(a, what));
                break;
            }
            case 6: {
                int balls = upTo(9);
                due.is("back(" + a + ", " + balls + ")", x.back(a, balls), model.back(a, balls));
                break;
            }
            case 7: {
                if (random.nextInt(4) == 0) {
                    due.is("wash()", x.wash(), model.wash());
                }
                break;
            }
            default:
                due.is("knit(" + part + ", " + a + ", " + b + ")", x.knit(part, a, b), model.knit(part, a, b));
        }
    }

    private void callSecondHalf(int call, int part, int a) {
        switch (call) {
            case 9: {
                int what = random.nextInt(8) == 0 ? random.nextInt(18) - 1 : random.nextInt(6) == 0 ? 0
                        : 10 + random.nextInt(5);
                if (random.nextInt(3) == 0) {
                    due.is("least(" + what + ")", x.least(what), model.least(what));
                }
                break;
            }
            case 10: {
                int by = upTo(1);
                due.is("wanted(" + a + ", " + by + ")", x.wanted(a, by), model.wanted(a, by));
                break;
            }
            case 11:
            case 12: {
                int seen = drawFound(part);
                due.is("found(" + part + ", " + seen + ")", x.found(part, seen), model.found(part, seen));
                break;
            }
            case 13:
                due.is("fits()", x.fits(), model.fits());
                break;
            case 14:
                due.is("sure(" + part + ")", x.sure(part), model.sure(part));
                break;
            case 15: {
                int times = upTo(30);
                int seed = random.nextInt(30) == 0 ? -1 : random.nextInt() & 0x7fffffff;
                int what = upTo(1);
                due.is("years()", x.years(times, seed, what), model.years(times, seed, what));
                break;
            }
            case 16:
                due.is("image()", x.image(), model.image());
                break;
            default:
                due.is("restore()", x.restore(), model.restore());
        }
    }

    /** Such that something fits more often than not: what two tones that there are would show. */
    private int drawFound(int part) {
        int lots = model.lots.size();
        if (random.nextInt(3) == 0 || lots == 0 || part < 0 || part + 1 >= model.parts.size()) {
            return random.nextInt(4) == 0 ? -1 : upTo(320) - random.nextInt(2);
        }
        int[] tones = new int[2];
        for (int at = 0; at < 2; at++) {
            tones[at] = model.lots.get(random.nextInt(lots))[0] + model.lots.get(random.nextInt(lots))[0];
        }
        return model.between(part, tones[0], tones[1]);
    }

    private void callOften(int call, int part, int a, int b) {
        switch (call) {
            case 18:
            case 19: {
                int balls = random.nextInt(3) == 0 ? upTo(9) : 1;
                due.is("buy(" + a + ", " + balls + ")", x.buy(a, balls), model.buy(a, balls));
                break;
            }
            case 20:
            case 21:
                due.is("knit(" + part + ", " + a + ", " + b + ")", x.knit(part, a, b), model.knit(part, a, b));
                break;
            case 22:
                due.is("undo(" + part + ")", x.undo(part), model.undo(part));
                break;
            case 23:
            case 24: {
                int rows = upTo(18);
                due.is("gauge(" + part + ", " + rows + ")", x.gauge(part, rows), model.gauge(part, rows));
                break;
            }
            default: {
                int what = upTo(10);
                due.is("count(" + what + ")", x.count(what), model.count(what));
            }
        }
    }

    /** The document's words, with nothing saved up. */
    private static final class Model {
        private static final int NONE = -1, UNKNOWN = -101, OUTSIDE = -102, STATE = -103, FULL = -104;
        private static final String SHAPE = "[pbsch][1-9](,[pbsch][1-9]){1,4};[0-3]";

        /** Of a part: kind, rows, lots, rows of each, what was told (0: nothing), found. */
        List<int[]> parts = new ArrayList<>();
        /** Of a lot: shade, balls, loose. */
        List<int[]> lots = new ArrayList<>();
        private List<int[]> keptParts = null;
        private List<int[]> keptLots = null;
        private String page = "";
        private int fade = 0;
        private int read = 0;
        private int planned = 0;

        int letter(int code) {
            if (code < 32 || code > 126) {
                return OUTSIDE;
            }
            if (page.length() == 18) {
                return FULL;
            }
            page += (char) code;
            return page.length();
        }

        int blank() {
            int had = page.length();
            page = "";
            return had;
        }

        /** The longest beginning that some ending makes a garment of. */
        int fault() {
            String[] endings = {"", "0", ";0", "1;0", "p1;0", ",p1;0", "1,p1;0", "p1,p1;0"};
            for (int length = page.length(); length > 0; length--) {
                for (String ending : endings) {
                    if ((page.substring(0, length) + ending).matches(SHAPE)) {
                        return length;
                    }
                }
            }
            return 0;
        }

        int garment() {
            if (!page.matches(SHAPE)) {
                return STATE;
            }
            parts = new ArrayList<>();
            lots = new ArrayList<>();
            keptParts = null;
            String[] halves = page.split(";");
            for (String part : halves[0].split(",")) {
                parts.add(new int[] {"pbsch".indexOf(part.charAt(0)), part.charAt(1) - '0', NONE, NONE, 0, 0, 0, NONE});
            }
            fade = Integer.parseInt(halves[1]);
            page = "";
            read++;
            return parts.size();
        }

        private boolean noPart(int part) {
            return part < 0 || part >= parts.size();
        }

        private boolean noLot(int lot) {
            return lot < 0 || lot >= lots.size();
        }

        private static int light(int kind) {
            return kind == 0 ? 2 : kind == 1 ? 4 : kind == 2 ? 3 : kind == 3 ? 1 : 0;
        }

        private int tone(int[] part) {
            return part[2] == NONE ? NONE : part[3] == NONE ? 2 * lots.get(part[2])[0]
                    : lots.get(part[2])[0] + lots.get(part[3])[0];
        }

        int between(int part, int tone, int next) {
            int kind = parts.get(part)[0];
            int nextKind = parts.get(part + 1)[0];
            int lesser = light(kind) < light(nextKind) ? light(kind) : light(nextKind);
            int unlike = tone > next ? tone - next : next - tone;
            return unlike * lesser * (kind == 2 && nextKind == 2 ? 2 : 1);
        }

        private int seen(int part) {
            if (part + 1 >= parts.size() || parts.get(part)[2] == NONE || parts.get(part + 1)[2] == NONE) {
                return 0;
            }
            return between(part, tone(parts.get(part)), tone(parts.get(part + 1)));
        }

        private int seenOfAll() {
            int sum = 0;
            for (int part = 0; part < parts.size(); part++) {
                sum += seen(part);
            }
            return sum;
        }

        int about(int part, int what) {
            if (noPart(part)) {
                return UNKNOWN;
            }
            int[] it = parts.get(part);
            int[] told = {it[0], it[1], light(it[0]), it[2], it[3], tone(it), seen(part), it[4] + it[5], it[7]};
            return what < 0 || what > 8 ? OUTSIDE : told[what];
        }

        int as(int part, int kind) {
            if (noPart(part)) {
                return UNKNOWN;
            }
            if (kind < 0 || kind > 4) {
                return OUTSIDE;
            }
            String kinds = new String[] {"0", "01", "02", "03", "034"}[parts.get(part)[0]];
            return kinds.indexOf('0' + kind) >= 0 ? part : NONE;
        }

        int lot(int shade) {
            if (shade < 0 || shade > 20) {
                return OUTSIDE;
            }
            if (parts.isEmpty()) {
                return STATE;
            }
            if (lots.size() == 3) {
                return FULL;
            }
            lots.add(new int[] {shade, 0, 0});
            return lots.size() - 1;
        }

        int lotOf(int lot, int what) {
            return noLot(lot) ? UNKNOWN : what < 0 || what > 2 ? OUTSIDE : lots.get(lot)[what];
        }

        int buy(int lot, int balls) {
            if (noLot(lot)) {
                return UNKNOWN;
            }
            if (balls < 1 || balls > 9) {
                return OUTSIDE;
            }
            return lots.get(lot)[1] + balls > 40 ? FULL : (lots.get(lot)[1] += balls);
        }

        int back(int lot, int balls) {
            if (noLot(lot)) {
                return UNKNOWN;
            }
            if (balls < 1 || balls > 9) {
                return OUTSIDE;
            }
            return lots.get(lot)[1] < balls ? STATE : (lots.get(lot)[1] -= balls);
        }

        private int there(int lot) {
            return 4 * lots.get(lot)[1] + lots.get(lot)[2];
        }

        private void takeRow(int[] lot) {
            if (lot[2] == 0) {
                lot[1]--;
                lot[2] = 4;
            }
            lot[2]--;
        }

        int knit(int part, int a, int b) {
            if (noPart(part) || noLot(a) || noLot(b)) {
                return UNKNOWN;
            }
            int[] it = parts.get(part);
            int second = a == b ? 0 : it[1] / 2;
            int first = it[1] - second;
            if (it[2] != NONE || there(a) < first || there(b) < second) {
                return STATE;
            }
            it[2] = a;
            it[3] = a == b ? NONE : b;
            for (int row = 0; row < it[1]; row++) {
                it[row < first ? 4 : 5]++;
                takeRow(lots.get(row < first ? a : b));
            }
            return seenOfAll();
        }

        int undo(int part) {
            if (noPart(part)) {
                return UNKNOWN;
            }
            int[] it = parts.get(part);
            if (it[2] == NONE) {
                return STATE;
            }
            int lost = 0;
            for (int half = 0; half < 2; half++) {
                if (it[4 + half] > 0) {
                    lots.get(it[2 + half])[2] += it[4 + half] - 1;
                    lost++;
                }
            }
            parts.set(part, new int[] {it[0], it[1], NONE, NONE, 0, 0, 0, it[7]});
            return lost;
        }

        int gauge(int part, int rows) {
            if (noPart(part)) {
                return UNKNOWN;
            }
            if (rows < 1 || rows > 18) {
                return OUTSIDE;
            }
            int[] it = parts.get(part);
            int had = it[4];
            if (it[2] == NONE || it[3] != NONE || there(it[2]) < rows - had) {
                return STATE;
            }
            for (int row = had; row < rows; row++) {
                takeRow(lots.get(it[2]));
            }
            for (int row = had; row > rows; row--) {
                lots.get(it[2])[2]++;
            }
            it[4] = rows;
            it[6] = rows;
            return rows - had;
        }

        private int washed(int shade) {
            for (int time = 0; time < fade; time++) {
                shade += shade > 10 ? -1 : shade < 10 ? 1 : 0;
            }
            return shade;
        }

        int wash() {
            if (parts.isEmpty()) {
                return STATE;
            }
            for (int[] lot : lots) {
                lot[0] = washed(lot[0]);
            }
            return seenOfAll();
        }

        int least(int what) {
            if (what != 0 && (what < 10 || what > 14)) {
                return OUTSIDE;
            }
            if (parts.isEmpty() || planned == 20) {
                return STATE;
            }
            planned++;
            int[] best = null;
            int bestSeen = Integer.MAX_VALUE;
            int all = 1;
            for (int part = 0; part < parts.size(); part++) {
                all *= parts.get(part)[2] == NONE ? lots.size() * lots.size() : 1;
            }
            for (int number = 0; number < all; number++) {
                int[] plan = planOf(number);
                int seen = seenBy(plan);
                if (seen != NONE && seen < bestSeen) {
                    best = plan;
                    bestSeen = seen;
                }
            }
            if (best == null) {
                return NONE;
            }
            return what == 0 ? bestSeen : what - 10 < best.length ? best[what - 10] : NONE;
        }

        private int[] planOf(int number) {
            int[] plan = new int[parts.size()];
            for (int part = parts.size() - 1; part >= 0; part--) {
                plan[part] = NONE;
                if (parts.get(part)[2] == NONE) {
                    int pair = number % (lots.size() * lots.size());
                    number /= lots.size() * lots.size();
                    plan[part] = 4 * (pair / lots.size()) + pair % lots.size();
                }
            }
            return plan;
        }

        /** NONE: there are too few rows for it. */
        private int seenBy(int[] plan) {
            int[] left = new int[lots.size()];
            for (int lot = 0; lot < left.length; lot++) {
                left[lot] = there(lot);
            }
            int[] tones = new int[plan.length];
            int sum = 0;
            for (int part = 0; part < plan.length; part++) {
                int[] it = parts.get(part);
                tones[part] = tone(it);
                if (plan[part] != NONE) {
                    int a = plan[part] / 4;
                    int b = plan[part] % 4;
                    for (int row = 0; row < it[1]; row++) {
                        left[2 * row < it[1] ? a : b]--;
                    }
                    tones[part] = lots.get(a)[0] + lots.get(b)[0];
                }
                sum += part == 0 ? 0 : between(part - 1, tones[part - 1], tones[part]);
            }
            for (int rows : left) {
                if (rows < 0) {
                    return NONE;
                }
            }
            return sum;
        }

        int wanted(int lot, int by) {
            if (noLot(lot)) {
                return UNKNOWN;
            }
            if (by < 0 || by > 1) {
                return OUTSIDE;
            }
            int open = 0;
            int told = 0;
            int of = 0;
            for (int[] part : parts) {
                open += part[2] == NONE ? part[1] : 0;
                told += part[6];
                of += part[6] > 0 ? part[1] : 0;
            }
            int rows = open;
            if (by == 1 && of > 0) {
                rows = 0;
                while (rows * of < open * told) {
                    rows++;
                }
            }
            int balls = 0;
            while (there(lot) + 4 * balls < rows) {
                balls++;
            }
            return balls;
        }

        int found(int part, int seen) {
            if (noPart(part) || part == parts.size() - 1) {
                return UNKNOWN;
            }
            if (seen < -1 || seen > 320) {
                return OUTSIDE;
            }
            int before = parts.get(part)[7];
            parts.get(part)[7] = seen;
            return before;
        }

        /** The tones of all ways that fit, way by way. */
        private List<int[]> allThatFit() {
            List<Integer> makes = new ArrayList<>();
            for (int a = 0; a < lots.size(); a++) {
                for (int b = 0; b <= a; b++) {
                    makes.add(lots.get(a)[0] + lots.get(b)[0]);
                }
            }
            List<int[]> fitting = new ArrayList<>();
            int all = 1;
            for (int part = 0; part < parts.size(); part++) {
                all *= makes.size();
            }
            for (int number = 0; number < all; number++) {
                int[] tones = new int[parts.size()];
                int rest = number;
                boolean fits = true;
                for (int part = 0; part < tones.length; part++) {
                    tones[part] = makes.get(rest % makes.size());
                    rest /= makes.size();
                    int due = part == 0 ? NONE : parts.get(part - 1)[7];
                    fits &= due == NONE || between(part - 1, tones[part - 1], tones[part]) == due;
                }
                if (fits) {
                    fitting.add(tones);
                }
            }
            return fitting;
        }

        int fits() {
            return parts.isEmpty() ? STATE : allThatFit().size();
        }

        int sure(int part) {
            return noPart(part) ? UNKNOWN : sureOf(allThatFit(), part);
        }

        private static int sureOf(List<int[]> fitting, int part) {
            for (int[] tones : fitting) {
                if (tones[part] != fitting.get(0)[part]) {
                    return NONE;
                }
            }
            return fitting.isEmpty() ? NONE : fitting.get(0)[part];
        }

        int years(int times, int seed, int what) {
            if (times < 1 || times > 30 || seed < 0 || what < 0 || what > 1) {
                return OUTSIDE;
            }
            if (lots.isEmpty()) {
                return STATE;
            }
            long at = seed;
            int sum = 0;
            for (int time = 0; time < times; time++) {
                int[] shades = new int[lots.size()];
                for (int lot = 0; lot < shades.length; lot++) {
                    at = (1103515245L * at + 12345L) % (1L << 31);
                    shades[lot] = (int) (at / 65536 % 21);
                }
                int[] tones = new int[parts.size()];
                for (int part = 0; part < tones.length; part++) {
                    at = (1103515245L * at + 12345L) % (1L << 31);
                    tones[part] = 2 * washed(shades[(int) (at / 65536 % shades.length)]);
                    sum += part == 0 ? 0 : between(part - 1, tones[part - 1], tones[part]);
                }
            }
            return what == 0 ? sum : (int) at;
        }

        private static List<int[]> copy(List<int[]> of) {
            List<int[]> made = new ArrayList<>();
            for (int[] row : of) {
                made.add(row.clone());
            }
            return made;
        }

        int image() {
            if (parts.isEmpty()) {
                return STATE;
            }
            keptParts = copy(parts);
            keptLots = copy(lots);
            return count(3);
        }

        int restore() {
            if (keptParts == null) {
                return STATE;
            }
            parts = copy(keptParts);
            lots = copy(keptLots);
            return count(3);
        }

        int count(int what) {
            int[] told = {parts.size(), fade, lots.size(), 0, seenOfAll(), 0, 0, 0, page.length(), read, planned};
            for (int[] part : parts) {
                told[3] += part[2] == NONE ? 0 : 1;
                told[7] += part[7] == NONE ? 0 : 1;
            }
            for (int[] lot : lots) {
                told[5] += lot[1];
                told[6] += lot[2];
            }
            return what < 0 || what > 10 ? OUTSIDE : told[what];
        }

        long digest() {
            List<Long> numbers = new ArrayList<>();
            List<int[]> fitting = parts.isEmpty() ? new ArrayList<>() : allThatFit();
            for (int part = 0; part < parts.size(); part++) {
                for (int what = 0; what <= 8; what++) {
                    numbers.add((long) about(part, what));
                }
                numbers.add((long) sureOf(fitting, part));
            }
            for (int lot = 0; lot < lots.size(); lot++) {
                for (int what = 0; what <= 2; what++) {
                    numbers.add((long) lotOf(lot, what));
                }
                numbers.add((long) wanted(lot, 0));
                numbers.add((long) wanted(lot, 1));
            }
            if (!parts.isEmpty()) {
                numbers.add((long) fitting.size());
            }
            for (char letter : page.toCharArray()) {
                numbers.add((long) letter);
            }
            for (int what = 0; what <= 10; what++) {
                numbers.add((long) count(what));
            }
            long h = 829;
            for (long number : numbers) {
                h = 31 * h + number;
            }
            return h;
        }
    }
}
