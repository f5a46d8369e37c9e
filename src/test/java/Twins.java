/** Two objects behind the same calls, of which one had a call more that changes nothing: they answer alike. */
final class Twins {
    private static final int NO_ITEM = -100013;

    private final Due due;
    private final int promise;
    private final String call;
    private final Calls one;
    private final Calls other;

    Twins(Due due, int promise, String call, Calls one, Calls other) {
        this.due = due;
        this.promise = promise;
        this.call = call;
        this.one = one;
        this.other = other;
    }

    /** What can't be asked without changing something comes last; so the twins are used up. */
    void areAlike() {
        compareCommons();
        compareTape();
        comparePricesAndDraw();
        compare("restore()");
        compareCommons();
        comparePricesAndDraw();
        makeItemsTellable();
        for (int sheet = 0; sheet <= 3; sheet++) {
            compareSheet(sheet);
        }
    }

    private int compare(String question) {
        int wanted = other.ask(question);
        due.is(promise, call + " changes something: then " + question, one.ask(question), wanted);
        return wanted;
    }

    private void compareCommons() {
        compare("count(2)");
        compare("count(3)");
        compareTrees();
        int climbers = compare("count(1)");
        for (int c = 0; c < climbers; c++) {
            for (int what = 0; what <= 3; what++) {
                compare("told(" + c + ", " + what + ")");
            }
        }
    }

    private void compareTrees() {
        int trees = compare("count(0)");
        for (int t = 0; t < trees; t++) {
            for (int what = 0; what <= 6; what++) {
                compare("of(" + t + ", " + what + ")");
            }
        }
    }

    /** What stands on THE TAPE is seen by the COMMONS that it is, one letter more at its end. */
    private void compareTape() {
        compare("type(" + (int) 'S' + ")");
        if (compare("commons()") > 0) {
            compareTrees();
        }
    }

    private void comparePricesAndDraw() {
        for (int f = 0; f <= 9; f++) {
            compare("price(" + f + ", " + f + ")");
        }
        compare("seed(7)");
    }

    /** Behind this each CLIMBER brings another FRUIT, so that an item that is one is told by what is earned. */
    private void makeItemsTellable() {
        for (int c = 0; c < 5; c++) {
            compare("climber(0, 1, 0, 0)");
        }
        for (int c = 0; c < 5; c++) {
            compare("set(" + c + ", 1, " + (c + 1) + ")");
        }
        compare("text(P)");
    }

    private void compareSheet(int sheet) {
        for (int lane = 0; lane <= 3; lane++) {
            if (compare("night(" + sheet + ", " + lane + ", 99, 0)") == ClimbedFruit.INDEX) {
                compareItems(sheet, lane);
            }
        }
    }

    private void compareItems(int sheet, int lane) {
        int earned = 0;
        for (int i = 0; i <= 16 && earned != NO_ITEM; i++) {
            earned = compare("earned(" + sheet + ", " + lane + ", " + i + ", 1, 1)");
        }
    }
}
