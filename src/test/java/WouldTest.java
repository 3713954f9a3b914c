/** Promises 20 to 24: would, delayed, roomy, least, moves. */
public final class WouldTest {
    private static final Checks checks = new Checks();
    private static final int NONE = DockTurns.NONE;
    private static final int CAN_NOT_BE = -2;
    private static final String ONE_EACH = "door in 0;door out 25;in 0 2 0 0 0;out 0 0 5 10 3;";

    public static void main(String[] args) {
        would();
        delayed();
        roomy();
        least();
        moves();
        movesWithoutChoice();
        questionsChangeNothing();
        checks.end();
    }

    /** Row 0: trucks 0, 2; row 1: truck 1; row 2: truck 3. */
    private static DockTurns three() {
        return Checks.told("door in 0;door in 10;door out 20;in 0 1 0 0 0;in 0 2 0 0 0;in 5 1 0 0 0;out 0 0 10 9 1;");
    }

    private static void would() {
        DockTurns x = three();
        checks.due("would", x.would(2, 1, 1), 11);
        for (int t = -1; t <= 4; t++) {
            for (int d = -1; d <= 3; d++) {
                for (int k = -1; k <= 4; k++) {
                    asPlace(x, t, d, k);
                }
            }
        }
        x.now(1);
        checks.due("a fixed one", x.would(0, 1, 1), CAN_NOT_BE);
        checks.due("ahead of a fixed one", x.would(2, 1, 0), CAN_NOT_BE);
        checks.due("a fixed one, there already", x.would(0, 0, 0), NONE);
        checks.due("behind a fixed one", x.would(2, 1, 1), 11);
        checks.due("the most", x.would(2, 1, Integer.MAX_VALUE), NONE);
        checks.due("the least", x.would(2, 1, Integer.MIN_VALUE), NONE);
        checks.due("no such one", x.would(Integer.MAX_VALUE, Integer.MAX_VALUE, 0), NONE);
        checks.due("no such one", x.would(Integer.MIN_VALUE, Integer.MIN_VALUE, 0), NONE);
    }

    private static void asPlace(DockTurns x, int t, int d, int k) {
        int would = x.would(t, d, k);
        DockTurns y = three();
        checks.due("would(" + t + ", " + d + ", " + k + ")", would, y.place(t, d, k));
    }

    private static void delayed() {
        DockTurns x = Checks.told(ONE_EACH);
        checks.due("an in one", x.delayed(0, 3), 18);
        checks.due("an out one", x.delayed(1, 10), 44);
        checks.due("not at all", x.delayed(0, 0), NONE);
        checks.due("earlier", x.delayed(0, -1), NONE);
        checks.due("100", x.delayed(0, 100), NONE);
        checks.due("the most", x.delayed(0, Integer.MAX_VALUE), NONE);
        checks.due("the least", x.delayed(0, Integer.MIN_VALUE), NONE);
        checks.due("no such one", x.delayed(2, 1), NONE);
        checks.due("no such one", x.delayed(-1, 1), NONE);
        x.late(0, 3);
        checks.due("by three more", x.delayed(0, 3), 27);
        checks.due("up to the last", x.delayed(0, 96) != NONE, true);
        checks.due("more than that", x.delayed(0, 97), NONE);
        x.undo();
        x.now(10);
        checks.due("it is fixed", x.truck(0, 12), 1);
        checks.due("a fixed one, too", x.delayed(0, 3), 18);
        checks.due("it arrives as it did", x.truck(0, 1), 0);
    }

    private static void roomy() {
        DockTurns x = Checks.told("door in 0;door out 0;in 0 3 0 0 0;out 0 0 1 10 2;");
        checks.due("none", x.roomy(0), 698);
        checks.due("one", x.roomy(1), 7);
        checks.due("as it is", x.roomy(10), 7);
        checks.due("the most", x.roomy(40), 7);
        checks.due("more", x.roomy(41), NONE);
        checks.due("less", x.roomy(-1), NONE);
        checks.due("the least of all", x.roomy(Integer.MIN_VALUE), NONE);
        checks.due("the most of all", x.roomy(Integer.MAX_VALUE), NONE);
        checks.due("staging stays", x.count(3), 10);
    }

    private static void least() {
        checks.due("one will do", Checks.told("door in 0;door out 0;in 0 3 0 0 0;out 0 0 1 10 2;").least(), 1);
        checks.due("three are needed", Checks.told("door in 0;door out 30;in 0 9 0 0 0;out 0 0 1 10 2;").least(), 3);
        checks.due("two are there", Checks.told("door in 0;door out 30;in 0 9 0 0 0;out 0 0 1 10 2;staging 2;").least(), 2);
        checks.due("none is needed", Checks.told("door in 0;door out 0;out 0 0 1 10 2;").least(), 0);
        checks.due("none helps", Checks.told("door in 0;in 0 3 0 0 0;staging 40;").least(), 0);
        checks.due("none is there", Checks.told("door in 0;door out 0;in 0 3 0 0 0;out 0 0 1 10 2;staging 0;").least(), 0);
    }

    private static void moves() {
        DockTurns x = three();
        checks.due("moves", x.moves(false), 9);
        checks.due("swaps", x.moves(true), 3);
        x.now(1);
        checks.due("moves then", x.moves(false), 1);
        checks.due("swaps then", x.moves(true), 0);
        x.undo();
        x.place(2, 1, 0);
        x.now(5);
        // Fixed now: 0 and 3, for 1 stands behind 2, which comes at 5.
        checks.due("fixed", x.count(15), 2);
        checks.due("moves then", x.moves(false), 4);
        checks.due("swaps then", x.moves(true), 1);
    }

    private static void movesWithoutChoice() {
        DockTurns x = Checks.told("door in 0;in 0 1 0 0 0;out 0 0 0 1 1;out 0 0 0 1 1;");
        checks.due("one place only", x.moves(false), 0);
        checks.due("in no row", x.moves(true), 0);
        DockTurns y = Checks.told("door in 0;door in 0;door in 0;door in 0;door in 0;door in 0;in 0 1 0 0 0;in 0 1 0 0 0;"
            + "in 0 1 0 0 0;in 0 1 0 0 0;in 0 1 0 0 0;in 0 1 0 0 0;in 0 1 0 0 0;in 0 1 0 0 0;");
        // Four trucks stand in rows of two, four alone; each can go to any place of the eight rows' places but its own.
        checks.due("moves of eight", y.moves(false), 4 * (1 + 3 + 4 * 2) + 4 * (2 * 3 + 3 * 2));
        checks.due("swaps of eight", y.moves(true), 28);
    }

    private static void questionsChangeNothing() {
        DockTurns x = three();
        x.would(2, 1, 0);
        x.delayed(0, 9);
        x.roomy(0);
        x.least();
        x.moves(true);
        x.moves(false);
        checks.due("cost", x.count(6), 13);
        checks.due("acts", x.count(16), 0);
        checks.due("arrives", x.truck(0, 1), 0);
        checks.due("on", x.carton(3, 3), 7);
        checks.dueRow("rows", x, 0, 0, 2);
        checks.dueRow("rows", x, 1, 1);
    }
}
