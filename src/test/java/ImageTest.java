/** Promises 25 and 26: image, again. */
public final class ImageTest {
    private static final Checks checks = new Checks();
    private static final int NONE = DockTurns.NONE;
    private static final String ONE_EACH = "door in 0;door out 25;in 0 2 0 0 0;out 0 0 5 10 3;staging 5;change 3;";

    public static void main(String[] args) {
        whichThereAre();
        allIsKept();
        anImageDoesNotChange();
        threeAtOnce();
        actsAreNotKept();
        imagesOutliveARead();
        ofANewObject();
        checks.end();
    }

    private static void whichThereAre() {
        DockTurns x = Checks.told(ONE_EACH);
        int[] odd = {-1, 3, Integer.MIN_VALUE, Integer.MAX_VALUE};
        for (int k : odd) {
            checks.due("image(" + k + ")", x.image(k), false);
            checks.due("again(" + k + ")", x.again(k), false);
        }
        x.now(1);
        for (int k = 0; k < 3; k++) {
            checks.due("again(" + k + ") of none", x.again(k), false);
        }
        checks.due("a refused one leaves the acts", x.count(16), 1);
        checks.due("image(2)", x.image(2), true);
        checks.due("again(1) of none", x.again(1), false);
        checks.due("again(2)", x.again(2), true);
        checks.due("again(2) once more", x.again(2), true);
    }

    private static void allIsKept() {
        DockTurns x = Checks.told(ONE_EACH);
        Checks.typeAll(x, "oops");
        x.read();
        Checks.typeAll(x, "door in 7;");
        x.late(0, 3);
        x.now(2);
        x.image(0);
        Checks.typeAll(x, "door out 8;in 3 0 0 0 1;");
        checks.due("another text", x.read(), 1);
        Checks.typeAll(x, "staging 9; change 8; staging 7;");
        checks.due("again", x.again(0), true);
        int[] want = {2, 2, 2, 5, 3, 2, 18, 2, 6, 6, 6, 2, 4, 7, 0, 1, 0, 10, 0};
        for (int what = 0; what < want.length; what++) {
            checks.due("count(" + what + ")", x.count(what), want[what]);
        }
        checks.due("the fault", x.fault(false), 1);
        checks.due("its place", x.fault(true), 0);
        checks.due("arrives", x.truck(0, 1), 3);
        checks.due("spot", x.door(1, 1), 25);
        checks.due("carton", x.carton(1, 3), 7);
        checks.due("the text is as it was", x.read(), 0);
        checks.due("with its door", x.door(0, 1), 7);
    }

    private static void anImageDoesNotChange() {
        DockTurns x = Checks.told("door in 0;door in 10;door out 20;in 0 1 0 0 0;in 0 2 0 0 0;in 5 1 0 0 0;out 0 0 10 9 1;");
        x.image(1);
        x.place(2, 1, 0);
        x.late(0, 9);
        x.now(8);
        x.again(1);
        checks.dueRow("again", x, 0, 0, 2);
        checks.dueRow("again", x, 1, 1);
        checks.due("arrives", x.truck(0, 1), 0);
        checks.due("now", x.count(5), 0);
        checks.due("cost", x.count(6), 13);
        x.swap(0, 1);
        x.again(1);
        checks.dueRow("again once more", x, 0, 0, 2);
        x.swap(0, 1);
        x.image(1);
        x.undo();
        x.again(1);
        checks.dueRow("kept over the old one", x, 0, 1, 2);
    }

    private static void threeAtOnce() {
        DockTurns x = Checks.told(ONE_EACH);
        for (int k = 0; k < 3; k++) {
            x.now(10 * (k + 1));
            x.image(k);
        }
        for (int k = 0; k < 3; k++) {
            checks.due("again(" + k + ")", x.again(k), true);
            checks.due("now", x.count(5), 10 * (k + 1));
        }
    }

    private static void actsAreNotKept() {
        DockTurns x = Checks.told(ONE_EACH);
        x.now(1);
        x.now(2);
        checks.due("image", x.image(0), true);
        checks.due("an image leaves the acts", x.count(16), 2);
        x.again(0);
        checks.due("again leaves none", x.count(16), 0);
        checks.due("none can be undone", x.undo(), NONE);
        checks.due("now", x.count(5), 2);
        x.now(3);
        checks.due("acts anew", x.count(16), 1);
        checks.due("undone", x.undo(), 0);
        checks.due("now then", x.count(5), 2);
    }

    private static void imagesOutliveARead() {
        DockTurns x = Checks.told(ONE_EACH);
        x.image(0);
        x.read();
        checks.due("nothing is told", x.count(0), 0);
        checks.due("again", x.again(0), true);
        checks.due("all is told", x.count(0), 2);
    }

    private static void ofANewObject() {
        DockTurns x = new DockTurns();
        x.image(0);
        Checks.typeAll(x, ONE_EACH);
        x.read();
        x.again(0);
        checks.due("doors", x.count(0), 0);
        checks.due("trucks", x.count(1), 0);
        checks.due("staging", x.count(3), 10);
        checks.due("cost", x.count(6), 0);
        checks.due("fault", x.fault(false), 0);
        checks.due("place", x.fault(true), NONE);
    }
}
