import java.util.List;

/** One object under test, and what its calls owe: a test makes one for each run of calls. */
final class Due {
    private static int wrong = 0;
    private static int asked = 0;

    private int answers = 0;
    final String run;
    final DyeLots x = new DyeLots();

    Due(String run) {
        this.run = run;
    }

    /** A run that begins with a garment already read. */
    static Due of(String run, String garment) {
        Due due = new Due(run);
        due.read(garment);
        return due;
    }

    void is(String call, long got, long want) {
        asked++;
        answers++;
        if (got != want) {
            wrong++;
            System.out.println(run + ": " + call + " answered " + got + ", due is " + want);
        }
    }

    /** How many answers of this object were held against what is due. */
    int answers() {
        return answers;
    }

    /** Whether two looks are alike, line by line. */
    void same(String when, List<String> got, List<String> want) {
        is(when + ", lines", got.size(), want.size());
        for (int line = 0; line < Math.min(got.size(), want.size()); line++) {
            asked++;
            if (!got.get(line).equals(want.get(line))) {
                wrong++;
                System.out.println(run + ": " + when + " is " + got.get(line) + ", due is " + want.get(line));
            }
        }
    }

    void type(String text) {
        for (int at = 0; at < text.length(); at++) {
            x.letter(text.charAt(at));
        }
    }

    void read(String garment) {
        x.blank();
        type(garment);
        is("garment() of " + garment, x.garment(), (garment.length() - 1) / 3);
    }

    /** A lot with so many balls, bought nine at a time at the most. */
    void lot(int shade, int balls) {
        int lot = x.lot(shade);
        for (int left = balls; left > 0; left -= 9) {
            x.buy(lot, Math.min(9, left));
        }
        is("balls of lot " + lot, x.lotOf(lot, 1), balls);
    }

    /** A new lot with just so many loose rows (0 to 15) and no ball: the others went into a part of one row. */
    void looseLot(int shade, int part, int loose) {
        int lot = x.lot(shade);
        x.buy(lot, 4);
        x.knit(part, lot, lot);
        x.gauge(part, 16);
        x.gauge(part, 16 - loose);
        lotIs(lot, 0, loose);
    }

    void lotIs(int lot, int balls, int loose) {
        is("balls of lot " + lot, x.lotOf(lot, 1), balls);
        is("loose rows of lot " + lot, x.lotOf(lot, 2), loose);
    }

    static void end() {
        System.out.println(asked + " answers asked, " + wrong + " wrong");
        if (wrong != 0 || asked == 0) {
            System.exit(1);
        }
    }
}
