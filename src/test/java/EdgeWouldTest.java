import java.util.function.Consumer;

/** The edges of the promises 20 to 26: what would be, and what is kept. */
public final class EdgeWouldTest {
    private static final Checks checks = new Checks();
    private static final int NONE = DockTurns.NONE;
    private static final int CAN_NOT_BE = -2;
    private static final int[] FAR = {-2, NONE, Integer.MIN_VALUE, Integer.MAX_VALUE};
    /** Row 0: trucks 0, 2, 4; row 1: trucks 1, 3; row 2: truck 5. */
    private static final String FIVE = "door in 0;door in 40;door out 20;in 0 1 0 0 0;in 0 1 0 0 0;in 4 1 0 0 0;"
        + "in 9 1 0 0 0;in 20 1 0 0 0;out 0 0 10 9 1;";
    private static final String[] DOCKS = {
        FIVE,
        "door in 0;door out 30;in 0 9 0 0 0;out 0 0 1 10 2;",
        "door in 0;door in 0;in 0 1 0 0 0;",
        "door out 0;door out 50;out 0 0 9 9 1;out 0 1 9 9 9;out 30 2 9 1 5;out 0 3 0 1 9;",
        "door in 0;in 0 3 0 0 0;out 0 0 5 1 1;",
        "in 0 1 0 0 0;out 0 0 0 1 1;",
        ""};

    public static void main(String[] args) {
        wouldAsPlace();
        wouldOfFarNumbers();
        delayedAsLate();
        delayedByOneAndByAll();
        delayedFixedOnes();
        roomyAsTold();
        roomyAfterActs();
        leastIsTheLeast();
        leastAtItsEnds();
        movesAndSwapsCounted();
        movesThatChangeNothing();
        movesBehindFixedOnes();
        imagesZeroToTwo();
        againAllIsAsItWas();
        againLeavesTheImages();
        imageOfTheTextAndTheFault();
        imageOfActsUndone();
        checks.end();
    }

    private static DockTurns at(String text, int now) {
        DockTurns x = Checks.told(text);
        x.now(now);
        return x;
    }

    /** NONE, -2: as place(); the COST: as place() has it. */
    private static void wouldAsPlace() {
        for (String text : DOCKS) {
            for (int now : new int[] {0, 1, 5, 10, 21}) {
                DockTurns x = at(text, now);
                int trucks = x.count(1);
                int doors = x.count(0);
                for (int t = NONE; t <= trucks; t++) {
                    for (int d = NONE; d <= doors; d++) {
                        for (int k = NONE; k <= 4; k++) {
                            checks.due("would(" + t + ", " + d + ", " + k + ") by " + now + " of " + text,
                                x.would(t, d, k), at(text, now).place(t, d, k));
                        }
                    }
                }
            }
        }
    }

    private static void wouldOfFarNumbers() {
        DockTurns x = Checks.told(FIVE);
        for (int odd : FAR) {
            checks.due("would(" + odd + ", 0, 0)", x.would(odd, 0, 0), NONE);
            checks.due("would(0, " + odd + ", 0)", x.would(0, odd, 0), NONE);
            checks.due("would(0, 1, " + odd + ")", x.would(0, 1, odd), NONE);
            checks.due("would of it alone", x.would(odd, odd, odd), NONE);
        }
        x.now(199);
        checks.due("all are FIXED", x.would(0, 1, 2), CAN_NOT_BE);
        checks.due("all are FIXED, to the end", x.would(4, 1, 2), CAN_NOT_BE);
        checks.due("all are FIXED, too far", x.would(4, 1, 3), NONE);
    }

    private static void delayedAsLate() {
        for (String text : DOCKS) {
            DockTurns x = Checks.told(text);
            int trucks = x.count(1);
            for (int t = NONE; t <= trucks; t++) {
                for (int by : new int[] {-1, 0, 1, 2, 7, 50, 98, 99, 100}) {
                    DockTurns y = Checks.told(text);
                    boolean can = y.late(t, by) != NONE;
                    checks.due("delayed(" + t + ", " + by + ") of " + text, x.delayed(t, by), can ? y.count(6) : NONE);
                }
            }
        }
    }

    /** NONE: a number not 1 to 99, it would be more than 99. */
    private static void delayedByOneAndByAll() {
        for (int arrives = 0; arrives <= 99; arrives++) {
            DockTurns x = Checks.told("door out 0;out " + arrives + " 0 0 1 1;");
            checks.due("by one", x.delayed(0, 1), arrives == 99 ? NONE : arrives + 1);
            checks.due("up to 99", x.delayed(0, 99 - arrives), arrives == 99 ? NONE : 99);
            checks.due("up to 100", x.delayed(0, 100 - arrives), NONE);
            checks.due("by none", x.delayed(0, 0), NONE);
            checks.due("ARRIVES as it did", x.truck(0, 1), arrives);
            checks.due("COST as it was", x.count(6), arrives);
        }
        DockTurns y = Checks.told("door out 0;out 0 0 0 1 1;");
        for (int by : new int[] {-1, 100, 101, Integer.MIN_VALUE, Integer.MAX_VALUE}) {
            checks.due("by " + by, y.delayed(0, by), NONE);
        }
        for (int odd : FAR) {
            checks.due("delayed(" + odd + ", 1)", y.delayed(odd, 1), NONE);
        }
        checks.due("a second one", y.delayed(1, 1), NONE);
    }

    /** Also FIXED ones. */
    private static void delayedFixedOnes() {
        DockTurns x = at("door out 0;out 3 0 0 1 9;", 4);
        checks.due("FIXED", x.truck(0, 12), 1);
        checks.due("it can not be late", x.late(0, 1), CAN_NOT_BE);
        checks.due("but what would be, can be asked", x.delayed(0, 1), 36);
        checks.due("up to 99", x.delayed(0, 96), 891);
        checks.due("not more", x.delayed(0, 97), NONE);
        checks.due("FIXED as it was", x.truck(0, 12), 1);
    }

    /** COST, were STAGING another one. NONE: another than 0 to 40. */
    private static void roomyAsTold() {
        for (String text : DOCKS) {
            DockTurns x = Checks.told(text);
            for (int staging = 0; staging <= 40; staging++) {
                checks.due("roomy(" + staging + ") of " + text, x.roomy(staging),
                    Checks.told(text + "staging " + staging + ";").count(6));
            }
            checks.due("roomy(41)", x.roomy(41), NONE);
            for (int odd : FAR) {
                checks.due("roomy(" + odd + ")", x.roomy(odd), NONE);
            }
            checks.due("STAGING as it was", x.count(3), 10);
        }
    }

    private static void roomyAfterActs() {
        DockTurns x = Checks.told(FIVE + "staging 1;");
        x.place(4, 1, 0);
        x.late(0, 30);
        x.now(2);
        DockTurns y = Checks.told(FIVE + "staging 0;");
        y.place(4, 1, 0);
        y.late(0, 30);
        checks.due("of the PLAN as it is", x.roomy(0), y.count(6));
        checks.due("as it is", x.roomy(1), x.count(6));
    }

    /** The least STAGING by which the COST would be no more than now. */
    private static void leastIsTheLeast() {
        for (String text : DOCKS) {
            for (int staging : new int[] {0, 1, 2, 3, 10, 40}) {
                DockTurns x = Checks.told(text + "staging " + staging + ";");
                int want = 0;
                while (want < 40 && x.roomy(want) > x.count(6)) {
                    want++;
                }
                checks.due("least by " + staging + " of " + text, x.least(), want);
            }
        }
    }

    private static void leastAtItsEnds() {
        checks.due("of a new object", new DockTurns().least(), 0);
        checks.due("0, there is nothing", Checks.told("staging 40;").least(), 0);
        checks.due("0, it is 0", Checks.told("door in 0;in 0 1 0 0 0;staging 0;").least(), 0);
        // All forty stand there till the OUT one comes, which is dearer than a hundred for each.
        String forty = "door in 0;door in 0;door in 0;door out 0;in 0 15 0 0 0;in 0 15 0 0 0;in 0 10 0 0 0;"
            + "out 99 0 199 40 1;";
        DockTurns x = Checks.told(forty + "staging 40;");
        checks.due("0, by which each costs a hundred", x.roomy(0), 4001);
        checks.due("which is less", x.count(6) > 4001, true);
        checks.due("so it is 0", x.least(), 0);
        DockTurns y = Checks.told(forty + "staging 1;");
        checks.due("0 is dearer", y.roomy(0) > y.count(6), true);
        checks.due("as it is", y.least(), 1);
        // From afar, as many come off as are on their way; with fewer the last one leaves late.
        DockTurns z = Checks.told("door in 0;door out 99;in 0 15 0 0 0;out 0 0 24 40 9;staging 40;");
        checks.due("nine are dearer", z.roomy(9) > z.count(6), true);
        checks.due("ten are not", z.roomy(10), z.count(6));
        checks.due("ten are on their way", z.least(), 10);
    }

    private static int movesOf(String text, int now) {
        int many = 0;
        for (int t = 0; t < 8; t++) {
            for (int d = 0; d < 6; d++) {
                for (int k = 0; k < 8; k++) {
                    many += at(text, now).place(t, d, k) >= 0 ? 1 : 0;
                }
            }
        }
        return many;
    }

    private static int swapsOf(String text, int now) {
        int many = 0;
        for (int t = 0; t < 8; t++) {
            for (int u = t + 1; u < 8; u++) {
                many += at(text, now).swap(t, u) >= 0 ? 1 : 0;
            }
        }
        return many;
    }

    /** How many MOVES, or (swaps) SWAPS, can be that change the PLAN. */
    private static void movesAndSwapsCounted() {
        for (String text : DOCKS) {
            for (int now : new int[] {0, 1, 5, 10, 21}) {
                DockTurns x = at(text, now);
                checks.due("MOVES by " + now + " of " + text, x.moves(false), movesOf(text, now));
                checks.due("SWAPS by " + now + " of " + text, x.moves(true), swapsOf(text, now));
            }
        }
    }

    private static void movesThatChangeNothing() {
        checks.due("nothing is there", new DockTurns().moves(false), 0);
        checks.due("nothing is there", new DockTurns().moves(true), 0);
        DockTurns x = Checks.told("door in 0;in 0 1 0 0 0;");
        checks.due("its own place only", x.moves(false), 0);
        checks.due("one alone", x.moves(true), 0);
        DockTurns y = Checks.told("door in 0;in 0 1 0 0 0;in 0 1 0 0 0;");
        checks.due("each to the other's place", y.moves(false), 2);
        checks.due("both", y.moves(true), 1);
        DockTurns z = Checks.told("door in 0;" + "in 0 1 0 0 0;".repeat(8));
        checks.due("eight in one ROW", z.moves(false), 8 * 7);
        checks.due("eight in one ROW", z.moves(true), 28);
        DockTurns w = Checks.told("door in 0;door in 0;door out 0;in 0 1 0 0 0;out 0 0 9 9 1;");
        checks.due("to the empty ROW", w.moves(false), 1);
        checks.due("unlike kinds", w.moves(true), 0);
        DockTurns v = Checks.told("in 0 1 0 0 0;in 0 1 0 0 0;");
        checks.due("in no ROW", v.moves(false), 0);
        checks.due("in no ROW", v.moves(true), 0);
    }

    private static void movesBehindFixedOnes() {
        // In row 0: trucks 0 (0), 1 (3), 2 (6), 3 (9), by CHANGE 2, all there from minute 0 on.
        DockTurns x = Checks.told("door in 0;door in 0;staging 40;" + "in 0 1 0 0 0;".repeat(4));
        x.place(1, 0, 2);
        x.place(3, 0, 3);
        checks.dueRow("all in one", x, 0, 0, 2, 1, 3);
        int[] nows = {1, 3, 4, 7, 10};
        // Of n that are not FIXED each has n - 1 other places here, and one in the empty ROW.
        int[] free = {3, 3, 2, 1, 0};
        for (int i = 0; i < nows.length; i++) {
            x.now(nows[i]);
            checks.due("not FIXED by " + nows[i], 4 - x.count(15), free[i]);
            checks.due("MOVES by " + nows[i], x.moves(false), free[i] * free[i]);
            checks.due("SWAPS by " + nows[i], x.moves(true), free[i] * (free[i] - 1) / 2);
        }
    }

    /** Kept as k, 0 to 2: true; false for another k; again(): false if there is none such. */
    private static void imagesZeroToTwo() {
        for (int kept = 0; kept < 3; kept++) {
            DockTurns x = new DockTurns();
            for (int k = -1; k <= 3; k++) {
                checks.due("none yet: again(" + k + ")", x.again(k), false);
            }
            checks.due("image(" + kept + ")", x.image(kept), true);
            for (int k = -1; k <= 3; k++) {
                checks.due("again(" + k + ")", x.again(k), k == kept);
            }
        }
        DockTurns y = new DockTurns();
        for (int odd : new int[] {-1, 3, 4, Integer.MIN_VALUE, Integer.MAX_VALUE}) {
            checks.due("image(" + odd + ")", y.image(odd), false);
            checks.due("again(" + odd + ")", y.again(odd), false);
        }
        for (int k = 0; k < 3; k++) {
            checks.due("a refused one keeps nothing", y.again(k), false);
        }
    }

    private static DockTurns kept() {
        DockTurns x = Checks.told("door in 0;door in 10;door out 20;in 0 1 0 0 0;in 0 2 0 0 0;in 5 1 0 0 0;out 0 0 10 9 1;"
            + "staging 3;change 1;");
        x.late(2, 3);
        x.place(2, 1, 1);
        x.now(1);
        Checks.typeAll(x, "door");
        x.read();
        Checks.typeAll(x, "door out 1;");
        x.image(1);
        return x;
    }

    private static void dueAgain(String what, Consumer<DockTurns> between) {
        DockTurns x = kept();
        between.accept(x);
        checks.due(what, x.again(1), true);
        checks.due("no ACTS " + what, x.count(16), 0);
        Whole.dueAlikeButForActs(checks, what, x, kept());
    }

    /** All is as it was kept as k. */
    private static void againAllIsAsItWas() {
        dueAgain("after nothing", x -> { });
        dueAgain("after place", x -> x.place(2, 0, 1));
        dueAgain("after late", x -> x.late(2, 91));
        dueAgain("after now", x -> x.now(199));
        dueAgain("after undo", x -> {
            x.undo();
            x.undo();
            x.undo();
        });
        dueAgain("after swap", x -> {
            x.undo();
            x.swap(0, 1);
        });
        dueAgain("after repair", x -> {
            x.undo();
            x.repair();
        });
        dueAgain("after type", x -> x.type(-1L));
        dueAgain("after read", DockTurns::read);
        dueAgain("after a FAULT", x -> {
            x.type(-1L);
            x.read();
        });
        dueAgain("after all else", x -> {
            x.read();
            Checks.typeAll(x, "door in 99;door in 98;door out 97;door out 96;door in 95;door in 94;" + "in 0 1 1 1 2;".repeat(8)
                + "staging 40;change 9;");
            x.read();
            x.late(7, 9);
            x.now(150);
            Checks.typeAll(x, "??");
        });
        dueAgain("after again", x -> x.again(1));
    }

    private static void againLeavesTheImages() {
        DockTurns x = new DockTurns();
        for (int k = 0; k < 3; k++) {
            x.now(k + 1);
            x.image(k);
        }
        for (int turn = 0; turn < 9; turn++) {
            int k = turn * 2 % 3;
            checks.due("again(" + k + ")", x.again(k), true);
            checks.due("NOW", x.count(5), k + 1);
            x.now(100 + turn);
            checks.due("acts anew", x.count(16), 1);
        }
        x.image(0);
        x.again(1);
        checks.due("another one is as it was", x.count(5), 2);
        x.again(0);
        checks.due("the latest one strikes", x.count(5), 108);
        x.read();
        checks.due("all as at first", x.count(5), 0);
        for (int k = 0; k < 3; k++) {
            checks.due("read() leaves them", x.again(k), true);
        }
    }

    /** THE TEXT, the FAULT, too. */
    private static void imageOfTheTextAndTheFault() {
        DockTurns x = new DockTurns();
        Checks.typeAll(x, "change 10;");
        x.read();
        Checks.typeAll(x, " ".repeat(392) + "change 7");
        checks.due("a full TEXT", x.count(17), 400);
        x.image(0);
        checks.due("another FAULT", x.read(), NONE);
        checks.due("its place", x.fault(true), 400);
        Checks.typeAll(x, "staging 1;");
        x.again(0);
        checks.due("the FAULT", x.fault(false), 2);
        checks.due("its place", x.fault(true), 7);
        checks.due("the TEXT is full", x.type(Checks.eight(";")), NONE);
        checks.due("and as it was", x.read(), NONE);
        checks.due("to its end", x.fault(true), 400);
        x.image(1);
        checks.due("an empty TEXT", x.read(), 0);
        checks.due("without a FAULT", x.fault(false), 0);
        x.again(1);
        checks.due("with it again", x.fault(false), 1);
        checks.due("the TEXT is empty again", x.count(17), 0);
    }

    /** But for what can be UNDONE. */
    private static void imageOfActsUndone() {
        DockTurns x = Checks.told(FIVE);
        for (int act = 1; act <= 8; act++) {
            x.now(act);
        }
        x.image(2);
        checks.due("image() leaves them", x.count(16), 8);
        checks.due("undo", x.undo(), 7);
        x.again(2);
        checks.due("none", x.count(16), 0);
        checks.due("none can", x.undo(), NONE);
        checks.due("NOW as kept", x.count(5), 8);
        for (int act = 1; act <= 8; act++) {
            x.now(8 + act);
            checks.due("anew", x.count(16), act);
        }
        for (int left = 7; left >= 0; left--) {
            checks.due("undo", x.undo(), left);
        }
        checks.due("up to the image", x.count(5), 8);
    }
}
