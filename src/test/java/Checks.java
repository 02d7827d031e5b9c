/** What the tests share: answers compared with those that are due, and texts given as words. */
final class Checks {
    private static int wrong = 0;
    private static int asked = 0;
    private static String sentence = "";

    private Checks() {
    }

    /** The words of the document that the answers from here on are due by. */
    static void sentence(String words) {
        sentence = " [" + words + "]";
    }

    static void due(String call, long got, long want) {
        asked++;
        if (got != want) {
            wrong++;
            System.out.println(call + " answered " + got + ", due is " + want + sentence);
        }
    }

    static void due(String call, boolean got, boolean want) {
        due(call, got ? 1 : 0, want ? 1 : 0);
    }

    /** The TEXT becomes these bytes alone. */
    static void write(WheelLand land, String text) {
        land.end(0);
        for (int k = 0; k < text.length(); k += 20) {
            land.feed(four(text, k), four(text, k + 4), four(text, k + 8), four(text, k + 12), four(text, k + 16));
        }
        land.end(text.length());
    }

    /** A new SHEET of this TEXT, IN FORCE from this WEEK on. */
    static int enforce(WheelLand land, String text, int week) {
        write(land, text);
        int sheet = land.sheet();
        due("sheet of " + text, sheet >= 0, true);
        land.force(sheet, week);
        return sheet;
    }

    static void finish(String name) {
        System.out.println(name + ": " + asked + " answers, " + wrong + " wrong");
        if (wrong != 0) {
            System.exit(1);
        }
    }

    private static int four(String text, int from) {
        int four = 0;
        for (int k = from; k < from + 4; k++) {
            four = four << 8 | (k < text.length() ? text.charAt(k) & 255 : ' ');
        }
        return four;
    }
}
