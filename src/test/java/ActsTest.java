/** Promises 5 to 11: place, swap, late, now, step, repair, undo. */
public final class ActsTest {
    private static final Checks checks = new Checks();
    private static final int NONE = DockTurns.NONE;
    private static final int CAN_NOT_BE = -2;

    public static void main(String[] args) {
        placed();
        placeRefused();
        placeOfFixed();
        swapped();
        swapRefused();
        late();
        nowIsLater();
        fixed();
        step();
        stepTakesTheFirstOfLikeOnes();
        stepPrefersMovesToSwaps();
        stepMovesTheFirstTruck();
        stepByASwap();
        stepKeepsFixed();
        repair();
        repairStopsAtFive();
        undone();
        onlyTheLatestEight();
        refusedOnesAreNoActs();
        checks.end();
    }

    /** Row 0: trucks 0, 2; row 1: truck 1; row 2: truck 3. */
    private static DockTurns three() {
        return Checks.told("door in 0;door in 10;door out 20;in 0 1 0 0 0;in 0 2 0 0 0;in 5 1 0 0 0;out 0 0 10 9 1;");
    }

    private static void placed() {
        DockTurns x = three();
        checks.dueRow("at first", x, 0, 0, 2);
        checks.dueRow("at first", x, 1, 1);
        // Off: 0 and 1 at 0, 2 at 1, 3 at 5; on: 1 at 1, 0 at 2, 2 at 3, 3 at 7.
        checks.due("cost at first", x.count(6), 1 + 2 + 2 + 2 + 6);
        // The third one now has the near door: its carton goes off at 5, on at 6.
        checks.due("place(2, 1, 1)", x.place(2, 1, 1), 1 + 2 + 2 + 1 + 5);
        checks.dueRow("behind", x, 0, 0);
        checks.dueRow("behind", x, 1, 1, 2);
        checks.due("cost then", x.count(6), 11);
        checks.due("place(2, 1, 0)", x.place(2, 1, 0), x.count(6));
        checks.dueRow("ahead", x, 1, 2, 1);
        checks.due("place(1, 0, 0)", x.place(1, 0, 0) >= 0, true);
        checks.dueRow("to another row", x, 0, 1, 0);
        checks.dueRow("to another row", x, 1, 2);
        x.place(2, 0, 1);
        checks.dueRow("between", x, 0, 1, 2, 0);
        checks.dueRow("an empty row", x, 1);
        x.place(1, 0, 2);
        checks.dueRow("to the end of its own", x, 0, 2, 0, 1);
        x.place(1, 0, 1);
        checks.dueRow("one ahead in its own", x, 0, 2, 1, 0);
        checks.due("its door", x.truck(1, 6), 0);
        checks.due("its place", x.truck(1, 7), 1);
        x.place(0, 1, 0);
        checks.dueRow("into an empty row", x, 1, 0);
    }

    private static void placeRefused() {
        DockTurns x = three();
        checks.due("no such truck", x.place(4, 0, 0), NONE);
        checks.due("no such truck", x.place(-1, 0, 0), NONE);
        checks.due("no such door", x.place(0, 3, 0), NONE);
        checks.due("no such door", x.place(0, -1, 0), NONE);
        checks.due("of the other kind", x.place(0, 2, 0), NONE);
        checks.due("of the other kind", x.place(3, 0, 0), NONE);
        checks.due("there already", x.place(0, 0, 0), NONE);
        checks.due("there already", x.place(2, 0, 1), NONE);
        checks.due("more than there are others", x.place(0, 0, 2), NONE);
        checks.due("more than there are others", x.place(0, 1, 2), NONE);
        checks.due("less than none", x.place(0, 1, -1), NONE);
        checks.due("the least of all", x.place(Integer.MIN_VALUE, Integer.MIN_VALUE, Integer.MIN_VALUE), NONE);
        checks.due("the most of all", x.place(0, 1, Integer.MAX_VALUE), NONE);
        checks.due("no acts", x.count(16), 0);
        checks.dueRow("as at first", x, 0, 0, 2);
        DockTurns y = Checks.told("door in 0;out 0 0 0 1 1;");
        checks.due("in no row, and no door of its kind", y.place(0, 0, 0), NONE);
    }

    private static void placeOfFixed() {
        DockTurns x = three();
        x.now(1);
        checks.due("fixed", x.count(15), 3);
        checks.due("a fixed one", x.place(0, 1, 1), CAN_NOT_BE);
        checks.due("a fixed one in its own row", x.place(0, 0, 1), CAN_NOT_BE);
        checks.due("ahead of a fixed one", x.place(2, 0, 0), CAN_NOT_BE);
        checks.due("ahead of a fixed one", x.place(2, 1, 0), CAN_NOT_BE);
        checks.due("a fixed one, there already", x.place(0, 0, 0), NONE);
        checks.due("a fixed one, too far", x.place(0, 1, 2), NONE);
        checks.due("acts", x.count(16), 1);
        checks.due("behind a fixed one", x.place(2, 1, 1), 11);
        checks.due("acts", x.count(16), 2);
    }

    private static void swapped() {
        DockTurns x = three();
        checks.due("swap", x.swap(1, 2) >= 0, true);
        checks.dueRow("of two rows", x, 0, 0, 1);
        checks.dueRow("of two rows", x, 1, 2);
        x.swap(1, 0);
        checks.dueRow("of one row", x, 0, 1, 0);
        checks.due("the cost then", x.swap(0, 1), x.count(6));
        checks.due("back to the first cost", x.swap(2, 1), 13);
        checks.dueRow("back", x, 0, 0, 2);
    }

    private static void swapRefused() {
        DockTurns x = three();
        checks.due("no such one", x.swap(0, 4), NONE);
        checks.due("no such one", x.swap(-1, 0), NONE);
        checks.due("no such one", x.swap(Integer.MIN_VALUE, Integer.MAX_VALUE), NONE);
        checks.due("they are one", x.swap(1, 1), NONE);
        checks.due("unlike kinds", x.swap(0, 3), NONE);
        DockTurns y = Checks.told("door in 0;out 0 0 0 1 1;out 0 0 0 1 1;");
        checks.due("in no row", y.swap(0, 1), NONE);
        x.now(1);
        checks.due("both fixed", x.swap(0, 1), CAN_NOT_BE);
        checks.due("the first fixed", x.swap(0, 2), CAN_NOT_BE);
        checks.due("the second fixed", x.swap(2, 1), CAN_NOT_BE);
        checks.due("a fixed one and none", x.swap(0, 9), NONE);
        checks.due("a fixed one and itself", x.swap(0, 0), NONE);
        checks.due("a fixed one and one of the other kind", x.swap(0, 3), NONE);
        checks.due("acts", x.count(16), 1);
    }

    private static void late() {
        DockTurns x = three();
        checks.due("late", x.late(2, 3), 8);
        checks.due("arrives", x.truck(2, 1), 8);
        checks.due("docks", x.truck(2, 8), 8);
        checks.due("the cost then", x.count(6), 13);
        checks.due("late once more", x.late(2, 90), 98);
        checks.due("out of what can be", x.late(2, 2), NONE);
        checks.due("up to the last", x.late(2, 1), 99);
        checks.due("not at all", x.late(2, 0), NONE);
        checks.due("earlier", x.late(2, -1), NONE);
        checks.due("no such one", x.late(4, 1), NONE);
        checks.due("no such one", x.late(-1, 1), NONE);
        checks.due("100", x.late(0, 100), NONE);
        checks.due("the most", x.late(0, Integer.MAX_VALUE), NONE);
        checks.due("the least", x.late(0, Integer.MIN_VALUE), NONE);
        checks.due("99", x.late(0, 99), 99);
        checks.due("an out one", x.late(3, 4), 4);
        checks.due("the rows stay", x.row(0, 0), 0);
        checks.due("acts", x.count(16), 5);
        x.now(5);
        checks.due("a fixed one", x.late(1, 1), CAN_NOT_BE);
        checks.due("a fixed one by too much", x.late(1, 100), NONE);
        checks.due("a fixed one by nothing", x.late(1, 0), NONE);
        checks.due("another fixed one", x.late(3, 1), CAN_NOT_BE);
        DockTurns y = Checks.told("door in 0;in 5 1 0 0 0;");
        y.now(5);
        checks.due("it docks now, not ahead", y.late(0, 1), 6);
    }

    private static void nowIsLater() {
        DockTurns x = three();
        checks.due("no later one", x.now(0), false);
        checks.due("no later one", x.now(-1), false);
        checks.due("the least", x.now(Integer.MIN_VALUE), false);
        checks.due("above 199", x.now(200), false);
        checks.due("the most", x.now(Integer.MAX_VALUE), false);
        checks.due("a later one", x.now(1), true);
        checks.due("now", x.count(5), 1);
        checks.due("the same", x.now(1), false);
        checks.due("the last", x.now(199), true);
        checks.due("now", x.count(5), 199);
        checks.due("acts", x.count(16), 2);
        checks.due("the cost stays", x.count(6), 13);
    }

    private static void fixed() {
        DockTurns x = three();
        int[][] byNow = {{0, 0, 0, 0}, {1, 1, 0, 1}, {1, 1, 0, 1}, {1, 1, 1, 1}};
        int[] minutes = {0, 1, 5, 6};
        for (int i = 0; i < minutes.length; i++) {
            x.now(minutes[i]);
            int many = 0;
            for (int t = 0; t < 4; t++) {
                checks.due("fixed by " + minutes[i] + ": " + t, x.truck(t, 12), byNow[i][t]);
                many += byNow[i][t];
            }
            checks.due("fixed in all", x.count(15), many);
        }
        DockTurns y = Checks.told("in 0 1 0 0 0;");
        y.now(199);
        checks.due("one that never docks is not", y.truck(0, 12), 0);
    }

    /** Row 1: trucks 1, 2, of which the second one is in a hurry. */
    private static final String HURRY = "door in 0;door out 0;in 0 1 1 0 0;out 0 0 199 9 1;out 0 1 1 9 9;";

    private static void step() {
        DockTurns x = Checks.told(HURRY);
        checks.due("cost at first", x.count(6), 31);
        checks.due("step", x.step(), 15);
        checks.dueRow("then", x, 1, 2, 1);
        checks.due("cost then", x.count(6), 15);
        checks.due("late times weight then", x.count(8), 9);
        checks.due("no more", x.step(), NONE);
        checks.due("acts", x.count(16), 1);
        checks.due("undone", x.undo(), 0);
        checks.due("cost as at first", x.count(6), 31);
        checks.dueRow("as at first", x, 1, 1, 2);
    }

    private static void stepTakesTheFirstOfLikeOnes() {
        DockTurns x = Checks.told("door in 0;door out 0;door out 0;door out 0;in 9 1 0 0 0;out 0 0 9 9 1;"
            + "out 0 1 0 1 1;out 0 1 0 1 1;out 0 1 0 1 1;");
        checks.dueRow("at first", x, 1, 1, 4);
        checks.due("cost at first", x.count(6), 15);
        checks.due("to its own row", x.would(1, 1, 1), 2);
        checks.due("to another row, likewise", x.would(1, 2, 1), 2);
        checks.due("step", x.step(), 2);
        checks.dueRow("the first of like ones", x, 1, 4, 1);
        checks.dueRow("the first of like ones", x, 2, 2);
        checks.dueRow("the first of like ones", x, 3, 3);
    }

    private static void stepPrefersMovesToSwaps() {
        DockTurns x = Checks.told("door in 0;door out 0;in 0 0 2 0 0;in 2 1 0 0 0;in 0 0 1 0 0;out 0 0 3 9 1;");
        checks.dueRow("at first", x, 0, 0, 2, 1);
        checks.due("cost at first", x.count(6), 306);
        checks.due("by the swap", x.swap(0, 1), 301);
        checks.dueRow("by the swap", x, 0, 1, 2, 0);
        x.undo();
        checks.due("by the move", x.would(1, 0, 0), 301);
        checks.due("step", x.step(), 301);
        checks.dueRow("the move comes first", x, 0, 1, 0, 2);
    }

    private static void stepMovesTheFirstTruck() {
        DockTurns x = Checks.told("door in 0;door out 0;in 0 0 2 0 0;in 0 1 0 0 0;in 0 1 0 0 0;out 0 0 3 9 9;");
        checks.due("cost at first", x.count(6), 247);
        checks.due("by a swap", x.swap(0, 2), 211);
        x.undo();
        checks.due("step", x.step(), 211);
        checks.dueRow("the first one goes to the end", x, 0, 1, 2, 0);
    }

    private static void stepByASwap() {
        // Each truck brings what the door beside the other one takes: only changing both helps most.
        DockTurns x = Checks.told("door in 0;door in 99;door out 0;door out 99;in 0 0 4 0 0;in 0 4 0 0 0;"
            + "out 0 0 199 9 1;out 0 1 199 9 1;");
        checks.due("cost at first", x.count(6), 8 * 20);
        checks.due("step", x.step(), 8);
        checks.dueRow("changed", x, 0, 1);
        checks.dueRow("changed", x, 1, 0);
        checks.dueRow("not these, which come later", x, 2, 2);
        checks.dueRow("not these, which come later", x, 3, 3);
        checks.due("no more", x.step(), NONE);
    }

    private static void stepKeepsFixed() {
        DockTurns x = Checks.told(HURRY);
        x.now(1);
        checks.due("the first one is fixed", x.truck(1, 12), 1);
        checks.due("so there is none", x.step(), NONE);
        checks.due("nor to repair", x.repair(), NONE);
        checks.dueRow("as at first", x, 1, 1, 2);
        checks.due("acts", x.count(16), 1);
    }

    private static void repair() {
        DockTurns x = Checks.told(HURRY);
        checks.due("repair", x.repair(), 1);
        checks.due("cost then", x.count(6), 15);
        checks.due("one act", x.count(16), 1);
        checks.due("none is left", x.repair(), NONE);
        checks.due("still one act", x.count(16), 1);
        checks.due("undone", x.undo(), 0);
        checks.due("cost as at first", x.count(6), 31);
    }

    private static void repairStopsAtFive() {
        String text = REPAIR_TEXT;
        DockTurns x = Checks.told(text);
        DockTurns y = Checks.told(text);
        int first = x.count(6);
        checks.due("repair", x.repair(), 5);
        for (int i = 0; i < 5; i++) {
            y.step();
        }
        checks.due("as five steps", x.count(6), y.count(6));
        for (int t = 0; t < x.count(1); t++) {
            checks.due("door as by five steps", x.truck(t, 6), y.truck(t, 6));
            checks.due("place as by five steps", x.truck(t, 7), y.truck(t, 7));
        }
        checks.due("one act", x.count(16), 1);
        checks.due("five acts", y.count(16), 5);
        checks.due("a sixth one helps", y.step() < x.count(6) && y.count(16) == 6, true);
        checks.due("undone at once", x.undo(), 0);
        checks.due("all of it", x.count(6), first);
    }

    private static final String REPAIR_TEXT = "door in 1;door out 9;in 12 4 3 1 1;in 14 0 2 1 0;in 8 0 2 2 1;"
        + "in 15 4 3 1 0;out 20 0 29 7 3;out 17 1 27 17 4;out 7 1 0 3 2;out 8 2 6 12 2;";

    private static void undone() {
        DockTurns x = three();
        checks.due("none yet", x.undo(), NONE);
        x.place(2, 1, 1);
        x.swap(0, 1);
        x.late(2, 5);
        x.now(3);
        checks.due("acts", x.count(16), 4);
        Checks.typeAll(x, "door");
        checks.due("now is undone", x.undo(), 3);
        checks.due("now", x.count(5), 0);
        checks.due("the text stays", x.count(17), 4);
        checks.due("late is undone", x.undo(), 2);
        checks.due("arrives", x.truck(2, 1), 5);
        checks.due("docks", x.truck(2, 8), 5);
        checks.due("swap is undone", x.undo(), 1);
        checks.dueRow("then", x, 1, 1, 2);
        checks.due("cost then", x.count(6), 11);
        checks.due("place is undone", x.undo(), 0);
        checks.dueRow("then", x, 0, 0, 2);
        checks.due("cost then", x.count(6), 13);
        checks.due("none more", x.undo(), NONE);
        checks.due("acts anew", x.now(7), true);
        checks.due("undone anew", x.undo(), 0);
    }

    private static void onlyTheLatestEight() {
        DockTurns x = three();
        for (int minute = 1; minute <= 11; minute++) {
            x.now(minute);
            checks.due("acts", x.count(16), Math.min(minute, 8));
        }
        for (int left = 7; left >= 0; left--) {
            checks.due("undo", x.undo(), left);
            checks.due("now", x.count(5), left + 3);
        }
        checks.due("none more", x.undo(), NONE);
        checks.due("now stays", x.count(5), 3);
    }

    private static void refusedOnesAreNoActs() {
        DockTurns x = three();
        x.place(0, 0, 0);
        x.swap(0, 0);
        x.late(0, 0);
        x.now(0);
        x.would(2, 1, 1);
        x.delayed(0, 5);
        x.roomy(1);
        x.least();
        x.image(0);
        checks.due("no acts", x.count(16), 0);
        checks.due("the cost stays", x.count(6), 13);
        checks.dueRow("the rows stay", x, 0, 0, 2);
    }
}
