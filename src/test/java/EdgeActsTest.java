import java.util.function.Consumer;

/** The edges of the promises 5 to 11 and of MOVES, SWAPS, FIXED TRUCKS, STEPS (Term 2), ACTS (Term 3). */
public final class EdgeActsTest {
    private static final Checks checks = new Checks();
    private static final int NONE = DockTurns.NONE;
    private static final int CAN_NOT_BE = -2;
    /** Row 0: trucks 0, 2, 4; row 1: trucks 1, 3; row 2: truck 5. */
    private static final String FIVE = "door in 0;door in 40;door out 20;in 0 1 0 0 0;in 0 1 0 0 0;in 4 1 0 0 0;"
        + "in 9 1 0 0 0;in 20 1 0 0 0;out 0 0 10 9 1;";
    private static final String[] DOCKS = {
        FIVE,
        "door in 0;door out 0;in 0 1 1 0 0;out 0 0 199 9 1;out 0 1 1 9 9;",
        "door in 0;door in 99;door out 0;door out 99;in 0 0 4 0 0;in 0 4 0 0 0;out 0 0 199 9 1;out 0 1 199 9 1;",
        "door in 0;door out 0;in 0 0 2 0 0;in 2 1 0 0 0;in 0 0 1 0 0;out 0 0 3 9 1;",
        "door in 1;door out 9;in 12 4 3 1 1;in 14 0 2 1 0;in 8 0 2 2 1;in 15 4 3 1 0;out 20 0 29 7 3;out 17 1 27 17 4;"
            + "out 7 1 0 3 2;out 8 2 6 12 2;",
        "door in 0;door in 0;in 0 1 0 0 0;in 0 1 0 0 0;",
        "door out 0;door out 50;out 0 0 9 9 1;out 0 1 9 9 9;out 30 2 9 1 5;out 0 3 0 1 9;",
        "in 0 1 0 0 0;out 0 0 0 1 1;"};

    public static void main(String[] args) {
        fixedAheadOfNow();
        fixedInTheLastMinute();
        everyPlaceOfARow();
        othersMakeRoom();
        asManyAsThereAreOthers();
        behindTheFixedOnes();
        fixedOfBothRows();
        swapsOfRows();
        swapBesideFixedOnes();
        lateByOneAndByAll();
        lateUpToNow();
        lateOfOneInNoRow();
        nowUpTo199();
        costNoLessIsNoStep();
        stepIsTheFirstOfTheLeast();
        stepBehindFixedOnes();
        repairAsManySteps();
        eachKindOfAct();
        undoGivesAllBack();
        theLatestEight();
        readAndAgainLeaveNone();
        checks.end();
    }

    /** A TRUCK is FIXED, if it DOCKS ahead of NOW. */
    private static void fixedAheadOfNow() {
        for (int arrives : new int[] {0, 1, 50, 98, 99}) {
            DockTurns x = Checks.told("door in 0;in " + arrives + " 1 0 0 0;");
            checks.due("not at first", x.truck(0, 12), 0);
            if (arrives > 0) {
                x.now(arrives);
                checks.due("it DOCKS now", x.truck(0, 12), 0);
                checks.due("none", x.count(15), 0);
            }
            x.now(arrives + 1);
            checks.due("it DOCKS a minute ahead", x.truck(0, 12), 1);
            checks.due("one", x.count(15), 1);
            x.undo();
            checks.due("no more", x.truck(0, 12), 0);
        }
    }

    private static void fixedInTheLastMinute() {
        DockTurns x = Checks.told("door in 0;door out 99;staging 1;change 9;in 99 10 0 0 0;in 99 1 0 0 0;out 99 0 199 40 9;");
        checks.due("one DOCKS in minute 199", x.truck(1, 8), 199);
        x.now(199);
        checks.due("which is not ahead of 199", x.truck(1, 12), 0);
        checks.due("the others are", x.count(15), 2);
        DockTurns y = Checks.told("door in 0;staging 0;in 0 1 0 0 0;in 0 1 0 0 0;out 0 0 0 1 1;");
        y.now(199);
        checks.due("one that never DOCKS is not FIXED", y.truck(1, 12), 0);
        checks.due("nor one in no ROW", y.truck(2, 12), 0);
    }

    /** To a place of any ROW of its kind (its own, too), so many others being ahead of it there. */
    private static void everyPlaceOfARow() {
        int[][] own = {{2, 0, 4}, {0, 2, 4}, {0, 4, 2}};
        int[][] other = {{2, 1, 3}, {1, 2, 3}, {1, 3, 2}};
        for (int k = 0; k <= 2; k++) {
            DockTurns x = Checks.told(FIVE);
            if (k == 1) {
                checks.due("it is there already", x.place(2, 0, 1), NONE);
            } else {
                checks.due("the COST then", x.place(2, 0, k), x.count(6));
            }
            checks.dueRow("its own ROW, " + k, x, 0, own[k]);
            DockTurns y = Checks.told(FIVE);
            checks.due("the COST then", y.place(2, 1, k), y.count(6));
            checks.dueRow("another ROW, " + k, y, 1, other[k]);
            checks.dueRow("that it left", y, 0, 0, 4);
        }
    }

    /** Whatever their numbers are, those behind it in the ROW that it leaves come up, those behind its place go back. */
    private static void othersMakeRoom() {
        DockTurns x = Checks.told(FIVE);
        x.swap(0, 4);
        x.swap(1, 3);
        checks.dueRow("the greater numbers first", x, 0, 4, 2, 0);
        checks.dueRow("the greater numbers first", x, 1, 3, 1);
        x.place(4, 1, 0);
        checks.dueRow("the others come up", x, 0, 2, 0);
        checks.dueRow("the others go back", x, 1, 4, 3, 1);
        x.place(2, 0, 1);
        checks.dueRow("to the end of its own", x, 0, 0, 2);
        x.place(2, 0, 0);
        checks.dueRow("to the beginning of its own", x, 0, 2, 0);
        x.place(3, 0, 2);
        checks.dueRow("behind all", x, 0, 2, 0, 3);
        checks.dueRow("from between", x, 1, 4, 1);
        x.place(0, 1, 1);
        checks.dueRow("from between", x, 0, 2, 3);
        checks.dueRow("between", x, 1, 4, 0, 1);
        checks.dueRow("of the other kind", x, 2, 5);
    }

    /** NONE: k is more than there are others. */
    private static void asManyAsThereAreOthers() {
        DockTurns x = Checks.told(FIVE);
        checks.due("two others in its own ROW", x.place(0, 0, 3), NONE);
        checks.due("no more than two", x.place(0, 0, 2) >= 0, true);
        checks.due("two others in another ROW", x.place(0, 1, 3), NONE);
        checks.due("no more than two", x.place(0, 1, 2) >= 0, true);
        checks.dueRow("then", x, 1, 1, 3, 0);
        DockTurns y = Checks.told("door in 0;door in 0;in 0 1 0 0 0;");
        checks.due("none in an empty ROW", y.place(0, 1, 1), NONE);
        checks.due("the first of it", y.place(0, 1, 0), 100);
        checks.due("none other in its own", y.place(0, 1, 1), NONE);
        checks.due("back", y.place(0, 0, 0), 100);
        DockTurns z = Checks.told("door in 0;door in 0;" + "in 0 1 0 0 0;".repeat(8));
        for (int truck = 1; truck < 8; truck += 2) {
            checks.due("a ROW of eight", z.place(truck, 0, z.door(0, 2)), 800);
        }
        checks.dueRow("of eight", z, 0, 0, 2, 4, 6, 1, 3, 5, 7);
        checks.due("the last place", z.place(0, 0, 7), 800);
        checks.due("no eighth other", z.place(0, 0, 8), NONE);
        checks.dueRow("then", z, 0, 2, 4, 6, 1, 3, 5, 7, 0);
    }

    /** They can be, if each ROW begins with the same FIXED TRUCKS, in the same order. */
    private static void behindTheFixedOnes() {
        DockTurns x = Checks.told(FIVE);
        x.now(5);
        checks.due("FIXED: 0, 2 of row 0, 1 of row 1, and 5", x.count(15), 4);
        checks.due("ahead of both", x.place(3, 0, 0), CAN_NOT_BE);
        checks.due("ahead of the second", x.place(3, 0, 1), CAN_NOT_BE);
        checks.due("behind both", x.would(3, 0, 2) >= 0, true);
        checks.due("behind all", x.would(3, 0, 3) >= 0, true);
        checks.due("too far", x.place(3, 0, 4), NONE);
        checks.due("ahead of the one", x.place(4, 1, 0), CAN_NOT_BE);
        checks.due("behind the one", x.place(4, 1, 1) >= 0, true);
        checks.dueRow("then", x, 0, 0, 2);
        checks.dueRow("then", x, 1, 1, 4, 3);
        checks.due("a FIXED one can not go", x.place(2, 0, 0), CAN_NOT_BE);
        checks.due("nor to the end of another ROW", x.place(2, 1, 3), CAN_NOT_BE);
        checks.due("nor the last FIXED one of a ROW", x.place(1, 0, 2), CAN_NOT_BE);
        checks.due("nor the only one of a ROW", x.place(5, 2, 0), NONE);
    }

    private static void fixedOfBothRows() {
        DockTurns x = Checks.told(FIVE);
        x.now(21);
        checks.due("all are FIXED", x.count(15), 6);
        for (int truck = 0; truck < 6; truck++) {
            for (int door = 0; door < 3; door++) {
                for (int k = 0; k <= x.door(door, 2); k++) {
                    checks.due("none can be", x.place(truck, door, k) < 0, true);
                }
            }
        }
        checks.due("MOVES", x.moves(false), 0);
        checks.due("SWAPS", x.moves(true), 0);
        checks.due("STEP", x.step(), NONE);
        checks.due("repair", x.repair(), NONE);
    }

    /** Two TRUCKS of one kind, each in a ROW, which then have one another's places. */
    private static void swapsOfRows() {
        DockTurns x = Checks.told(FIVE);
        checks.due("the COST then", x.swap(0, 4), x.count(6));
        checks.dueRow("ends of one ROW", x, 0, 4, 2, 0);
        checks.due("the COST then", x.swap(4, 3), x.count(6));
        checks.dueRow("of two ROWS", x, 0, 3, 2, 0);
        checks.dueRow("of two ROWS", x, 1, 1, 4);
        x.swap(4, 3);
        x.swap(4, 0);
        checks.dueRow("back", x, 0, 0, 2, 4);
        checks.dueRow("back", x, 1, 1, 3);
        checks.due("the COST as at first", x.count(6), Checks.told(FIVE).count(6));
    }

    private static void swapBesideFixedOnes() {
        DockTurns x = Checks.told(FIVE);
        x.now(5);
        checks.due("two FIXED ones of one ROW", x.swap(0, 2), CAN_NOT_BE);
        checks.due("two FIXED ones of two ROWS", x.swap(2, 1), CAN_NOT_BE);
        checks.due("the last FIXED one and the next", x.swap(2, 4), CAN_NOT_BE);
        checks.due("the next and the last FIXED one", x.swap(3, 1), CAN_NOT_BE);
        checks.due("two that are not", x.swap(4, 3) >= 0, true);
        checks.dueRow("then", x, 0, 0, 2, 3);
        checks.dueRow("then", x, 1, 1, 4);
    }

    /** A TRUCK ARRIVES so much later, 1 to 99; NONE: another number, it would be more than 99. */
    private static void lateByOneAndByAll() {
        for (int arrives = 0; arrives <= 99; arrives++) {
            for (int by : new int[] {1, 98 - arrives, 99 - arrives, 100 - arrives, 99}) {
                DockTurns x = Checks.told("door in 0;in " + arrives + " 1 0 0 0;");
                boolean can = by >= 1 && by <= 99 && arrives + by <= 99;
                checks.due(arrives + " and " + by, x.late(0, by), can ? arrives + by : NONE);
                checks.due("ARRIVES then", x.truck(0, 1), can ? arrives + by : arrives);
                checks.due("DOCKS then", x.truck(0, 8), can ? arrives + by : arrives);
                checks.due("an ACT or none", x.count(16), can ? 1 : 0);
            }
        }
        DockTurns y = Checks.told("door in 0;in 0 1 0 0 0;");
        for (int by : new int[] {0, -1, 100, 101, Integer.MIN_VALUE, Integer.MAX_VALUE}) {
            checks.due("by " + by, y.late(0, by), NONE);
        }
        checks.due("the rows stay", Checks.told(FIVE).row(0, 0), 0);
    }

    /** -2: it is FIXED. */
    private static void lateUpToNow() {
        DockTurns x = Checks.told("door in 0;in 5 1 0 0 0;in 5 1 0 0 0;");
        x.now(5);
        checks.due("it DOCKS now", x.late(0, 1), 6);
        x.now(6);
        checks.due("now, once more", x.late(0, 1), 7);
        x.now(8);
        checks.due("it DOCKS ahead", x.late(0, 1), CAN_NOT_BE);
        checks.due("the next one DOCKS later, though it is there", x.truck(1, 8), 10);
        checks.due("so it can be late", x.late(1, 1), 6);
        checks.due("DOCKS as it did", x.truck(1, 8), 10);
        checks.due("FIXED, and more than 99", x.late(0, 93), NONE);
        checks.due("FIXED, and 99", x.late(0, 92), CAN_NOT_BE);
    }

    private static void lateOfOneInNoRow() {
        DockTurns x = Checks.told("out 0 0 0 1 1;");
        x.now(199);
        checks.due("it never DOCKS", x.late(0, 99), 99);
        checks.due("an ACT", x.count(16), 2);
        checks.due("undone", x.undo(), 1);
        checks.due("ARRIVES", x.truck(0, 1), 0);
    }

    /** NOW is a later one: true. false: it is no later one, above 199. */
    private static void nowUpTo199() {
        DockTurns x = new DockTurns();
        for (int minute = 1; minute <= 199; minute++) {
            checks.due("the same is no later one", x.now(minute - 1), false);
            checks.due("one later", x.now(minute), true);
        }
        checks.due("200", x.now(200), false);
        checks.due("199 is no later one now", x.now(199), false);
        checks.due("NOW", x.count(5), 199);
        DockTurns y = new DockTurns();
        checks.due("199 at once", y.now(199), true);
        checks.due("undone", y.undo(), 0);
        checks.due("0 again", y.count(5), 0);
        checks.due("0 is no later one", y.now(0), false);
        checks.due("the most", y.now(Integer.MAX_VALUE), false);
        checks.due("the least", y.now(Integer.MIN_VALUE), false);
    }

    /** .. the one by which the COST is least, if it is less than now. */
    private static void costNoLessIsNoStep() {
        DockTurns x = Checks.told("door in 0;door in 0;in 0 1 0 0 0;in 0 1 0 0 0;");
        checks.due("MOVES there are", x.moves(false) > 0, true);
        checks.due("SWAPS there are", x.moves(true), 1);
        checks.due("the COST by all of them", x.would(0, 1, 0), 200);
        checks.due("no STEP", x.step(), NONE);
        checks.due("no ACT", x.count(16), 0);
        // By one less: the near DOOR is free, so TRAVEL is 0 in place of 1.
        DockTurns y = Checks.told("door in 10;door in 0;door out 0;in 0 1 0 0 0;out 0 0 99 9 1;");
        checks.due("COST", y.count(6), 2);
        checks.due("one less", y.step(), 1);
        checks.dueRow("moved", y, 1, 0);
        checks.due("no more", y.step(), NONE);
    }

    private static DockTurns at(String text, int now) {
        DockTurns x = Checks.told(text);
        x.now(now);
        return x;
    }

    /** The STEP, found by placing and swapping on objects of their own; NONE if none makes the COST less. */
    private static Consumer<DockTurns> stepOf(String text, int now) {
        DockTurns x = at(text, now);
        int trucks = x.count(1);
        int doors = x.count(0);
        int least = x.count(6);
        Consumer<DockTurns> best = null;
        for (int t = 0; t < trucks; t++) {
            for (int d = 0; d < doors; d++) {
                for (int k = 0; k < trucks; k++) {
                    int cost = at(text, now).place(t, d, k);
                    if (cost >= 0 && cost < least) {
                        int truck = t;
                        int door = d;
                        int place = k;
                        least = cost;
                        best = y -> y.place(truck, door, place);
                    }
                }
            }
        }
        for (int t = 0; t < trucks; t++) {
            for (int u = t + 1; u < trucks; u++) {
                int cost = at(text, now).swap(t, u);
                if (cost >= 0 && cost < least) {
                    int one = t;
                    int other = u;
                    least = cost;
                    best = y -> y.swap(one, other);
                }
            }
        }
        return best;
    }

    private static void dueStep(String text, int now) {
        Consumer<DockTurns> best = stepOf(text, now);
        DockTurns x = at(text, now);
        DockTurns y = at(text, now);
        int cost = x.step();
        checks.due("a STEP by " + now + " of " + text, cost == NONE, best == null);
        checks.due("the COST then", x.count(6), cost == NONE ? y.count(6) : cost);
        if (best != null) {
            best.accept(y);
        }
        for (int truck = 0; truck < x.count(1); truck++) {
            checks.due("DOOR of " + truck + " by " + now + " of " + text, x.truck(truck, 6), y.truck(truck, 6));
            checks.due("place of " + truck + " by " + now + " of " + text, x.truck(truck, 7), y.truck(truck, 7));
        }
        checks.due("as many ACTS", x.count(16), y.count(16));
    }

    /** All MOVES (by TRUCKS, then DOORS, then places), then all SWAPS; of like ones the first. */
    private static void stepIsTheFirstOfTheLeast() {
        for (String text : DOCKS) {
            dueStep(text, 0);
        }
    }

    private static void stepBehindFixedOnes() {
        for (String text : DOCKS) {
            for (int now : new int[] {1, 5, 9, 13, 16, 21, 40, 199}) {
                dueStep(text, now);
            }
        }
    }

    /** STEPS, one behind the other, 5 at most: how many. NONE: there is none. */
    private static void repairAsManySteps() {
        for (String text : DOCKS) {
            for (int now : new int[] {0, 13}) {
                DockTurns x = at(text, now);
                DockTurns y = at(text, now);
                int ahead = x.count(16);
                int steps = 0;
                while (steps < 5 && y.step() != NONE) {
                    steps++;
                }
                checks.due("repair by " + now + " of " + text, x.repair(), steps == 0 ? NONE : steps);
                checks.due("the COST then", x.count(6), y.count(6));
                for (int truck = 0; truck < x.count(1); truck++) {
                    checks.due("DOOR of " + truck, x.truck(truck, 6), y.truck(truck, 6));
                    checks.due("place of " + truck, x.truck(truck, 7), y.truck(truck, 7));
                }
                checks.due("one ACT, if any", x.count(16), ahead + (steps == 0 ? 0 : 1));
                if (steps > 0) {
                    checks.due("undone at once", x.undo(), ahead);
                }
                Whole.dueAlike(checks, "as ahead of repair", x, at(text, now));
            }
        }
    }

    private static void eachKindOfAct() {
        DockTurns x = Checks.told(DOCKS[4]);
        x.place(0, 0, 0);
        checks.due("place", x.count(16), 1);
        x.swap(4, 5);
        checks.due("swap", x.count(16), 2);
        x.late(0, 1);
        checks.due("late", x.count(16), 3);
        x.now(1);
        checks.due("now", x.count(16), 4);
        x.step();
        checks.due("step", x.count(16), 5);
        checks.due("more than one STEP", x.repair() > 1, true);
        checks.due("repair", x.count(16), 6);
        for (int left = 5; left >= 0; left--) {
            checks.due("undo", x.undo(), left);
        }
        Whole.dueAlike(checks, "all undone", x, Checks.told(DOCKS[4]));
    }

    /** The latest ACT is UNDONE. */
    private static void undoGivesAllBack() {
        String text = DOCKS[3];
        Whole.dueUnchanged(checks, "place and undo", () -> Checks.told(text), x -> {
            x.place(0, 0, 2);
            x.undo();
        });
        Whole.dueUnchanged(checks, "swap and undo", () -> Checks.told(text), x -> {
            x.swap(0, 1);
            x.undo();
        });
        Whole.dueUnchanged(checks, "late and undo", () -> at(text, 1), x -> {
            x.late(1, 97);
            x.undo();
        });
        Whole.dueUnchanged(checks, "now and undo", () -> at(text, 1), x -> {
            x.now(199);
            x.undo();
        });
        Whole.dueUnchanged(checks, "step and undo", () -> Checks.told(text), x -> {
            checks.due("a STEP", x.step() >= 0, true);
            x.undo();
        });
        Whole.dueUnchanged(checks, "repair and undo", () -> Checks.told(text), x -> {
            checks.due("STEPS", x.repair() >= 1, true);
            x.undo();
        });
    }

    /** ACTS that can be UNDONE, the latest 8. */
    private static void theLatestEight() {
        for (int acts = 0; acts <= 20; acts++) {
            DockTurns x = Checks.told(FIVE);
            for (int act = 1; act <= acts; act++) {
                x.late(4, 1);
            }
            int can = Math.min(acts, 8);
            checks.due("of " + acts + " ACTS", x.count(16), can);
            checks.due("ARRIVES", x.truck(4, 1), 20 + acts);
            for (int left = can - 1; left >= 0; left--) {
                checks.due("undo", x.undo(), left);
                checks.due("ARRIVES", x.truck(4, 1), 20 + acts - can + left);
                checks.due("count(16)", x.count(16), left);
            }
            checks.due("none can", x.undo(), NONE);
            checks.due("ARRIVES", x.truck(4, 1), 20 + acts - can);
        }
        DockTurns y = Checks.told(FIVE);
        for (int act = 0; act < 12; act++) {
            y.late(4, 1);
            y.late(4, 1);
            y.undo();
        }
        checks.due("an undone one can not be undone again", y.count(16), 7);
        checks.due("ARRIVES", y.truck(4, 1), 32);
        y.late(4, 1);
        y.late(4, 0);
        y.now(0);
        y.place(0, 0, 0);
        y.swap(0, 0);
        checks.due("refused ones push none out", y.count(16), 8);
        for (int left = 7; left >= 0; left--) {
            checks.due("undo", y.undo(), left);
        }
        checks.due("as it was eight ACTS ago", y.truck(4, 1), 25);
    }

    /** read() without a FAULT, again() leave none. */
    private static void readAndAgainLeaveNone() {
        DockTurns x = at(FIVE, 3);
        Checks.typeAll(x, "oops");
        x.read();
        checks.due("a FAULT leaves them", x.count(16), 1);
        x.image(0);
        checks.due("image() leaves them", x.count(16), 1);
        x.again(1);
        checks.due("a refused again() leaves them", x.count(16), 1);
        x.again(0);
        checks.due("again() leaves none", x.count(16), 0);
        checks.due("NOW as kept", x.count(5), 3);
        checks.due("none can be undone", x.undo(), NONE);
        x.now(4);
        checks.due("an ACT anew", x.count(16), 1);
        x.read();
        checks.due("read() leaves none", x.count(16), 0);
        checks.due("none can be undone", x.undo(), NONE);
    }
}
