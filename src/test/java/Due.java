/** What all tests of the project share: a count of answers that are not as due, and short ways to set things up. */
final class Due {
    private int asked;
    private int wrong;

    void is(int promise, String call, long got, long want) {
        asked++;
        if (got != want) {
            wrong++;
            System.out.println("promise " + promise + ": " + call + " answered " + got + ", due is " + want);
        }
    }

    /** Ends the run, with exit code 1 if an answer was not as due. */
    void end(String name) {
        System.out.println(name + ": " + asked + " answers, " + wrong + " not as due");
        if (wrong != 0 || asked == 0) {
            System.exit(1);
        }
    }

    static void write(ClimbedFruit x, String text) {
        for (int i = 0; i < text.length(); i++) {
            x.type(text.charAt(i));
        }
    }

    static int commons(ClimbedFruit x, String text) {
        write(x, text);
        return x.commons();
    }

    /** A row of a LANE in a SHEET, with these items. */
    static void fill(ClimbedFruit x, int sheet, int lane, long... items) {
        x.sheet(sheet, lane, items.length);
        for (int i = 0; i < items.length; i++) {
            x.item(sheet, lane, i, items[i]);
        }
    }
}
