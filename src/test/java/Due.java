/** One object under test, and what its calls owe: a test makes one for each run of calls. */
final class Due {
    private static int wrong = 0;
    private static int asked = 0;

    final String run;
    final DyeLots x = new DyeLots();

    Due(String run) {
        this.run = run;
    }

    /** A run that begins with a garment already read. */
    static Due of(String run, String garment) {
        Due due = new Due(run);
        due.read(garment);
        return due;
    }

    void is(String call, long got, long want) {
        asked++;
        if (got != want) {
            wrong++;
            System.out.println(run + ": " + call + " answered " + got + ", due is " + want);
        }
    }

    void type(String text) {
        for (int at = 0; at < text.length(); at++) {
            x.letter(text.charAt(at));
        }
    }

    void read(String garment) {
        x.blank();
        type(garment);
        is("garment() of " + garment, x.garment(), (garment.length() - 1) / 3);
    }

    /** A lot with so many balls, bought nine at a time at the most. */
    void lot(int shade, int balls) {
        int lot = x.lot(shade);
        for (int left = balls; left > 0; left -= 9) {
            x.buy(lot, Math.min(9, left));
        }
        is("balls of lot " + lot, x.lotOf(lot, 1), balls);
    }

    static void end() {
        System.out.println(asked + " answers asked, " + wrong + " wrong");
        if (wrong != 0 || asked == 0) {
            System.exit(1);
        }
    }
}
