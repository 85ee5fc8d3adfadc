/** What the tests share: an answer against the one that is due, and texts laid into rows. */
final class Due {
    private static int wrong = 0;
    private static int asked = 0;
    private static String words = "";

    private Due() {
    }

    static void due(String call, long got, long want) {
        asked++;
        if (got != want) {
            wrong++;
            System.out.println(words + call + " answered " + got + ", due is " + want);
        }
    }

    /** The document's words that are tested from here on: what fails is told with them. */
    static void words(String now) {
        words = "\"" + now + "\": ";
    }

    static void end() {
        System.out.println(asked + " answers asked for, " + wrong + " not as due");
        if (wrong != 0 || asked == 0) {
            System.exit(1);
        }
    }

    static void lay(PaidInLeaves x, int s, String letters) {
        due("row for " + letters, x.row(s, 0, letters.length()), 1);
        for (int i = 0; i < letters.length(); i++) {
            due("set for " + letters, x.set(s, i, letters.charAt(i)), 1);
        }
    }

    static void lay(PaidInLeaves x, int s, int... deeds) {
        due("row", x.row(s, 0, deeds.length), 1);
        for (int i = 0; i < deeds.length; i++) {
            due("set", x.set(s, i, deeds[i]), 1);
        }
    }

    /** A text that can stand: how many items it has. */
    static void reads(PaidInLeaves x, String letters, int items) {
        lay(x, 7, letters);
        due("garden: " + letters, x.garden(7), items);
        due("fault: " + letters, x.fault(), PaidInLeaves.NONE);
    }

    /** A text that can't stand: where its fault is. */
    static void faults(PaidInLeaves x, String letters, int place) {
        lay(x, 7, letters);
        due("garden: " + letters, x.garden(7), -6);
        due("fault: " + letters, x.fault(), place);
    }

    /** How many refusals there were, -1 to -7. */
    static void refused(PaidInLeaves x, int... counts) {
        for (int i = 0; i < 7; i++) {
            due("refusals of -" + (i + 1), x.status(11 + i), counts[i]);
        }
    }
}
