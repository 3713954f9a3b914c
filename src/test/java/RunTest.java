/** The run of a plan and promises 12 to 19, which tell of it: count, door, row, truck, carton, staged, at, travel. */
public final class RunTest {
    private static final Checks checks = new Checks();
    private static final int NONE = DockTurns.NONE;

    public static void main(String[] args) {
        oneInOneOut();
        doorsAndTrucksOfIt();
        cartonsAndMinutesOfIt();
        roomOfTheStaging();
        idleMinutes();
        nothingCanBeStaged();
        doorsAreFreedByChange();
        fullTrucksLeave();
        nothingToWaitFor();
        severalAtOneDoor();
        trucksInNoRow();
        whichCartonIsFirst();
        farCartonsComeLater();
        destinationsApart();
        sameMinuteAtTwoDoors();
        outBeforeIn();
        nobodyDocksTooEarly();
        lastMinute();
        travel();
        checks.end();
    }

    private static final String ONE_EACH = "door in 0;door out 25;in 0 2 0 0 0;out 0 0 5 10 3;";

    private static void oneInOneOut() {
        DockTurns x = Checks.told(ONE_EACH);
        int[] want = {2, 2, 2, 10, 2, 0, 12, 2, 0, 6, 6, 2, 1, 4, 0, 0, 0, 0, 0};
        for (int what = 0; what < want.length; what++) {
            checks.due("one each: count(" + what + ")", x.count(what), want[what]);
        }
        checks.due("count(19)", x.count(19), NONE);
        checks.due("count(-1)", x.count(-1), NONE);
        checks.due("count of the least", x.count(Integer.MIN_VALUE), NONE);
        checks.due("count of the most", x.count(Integer.MAX_VALUE), NONE);
    }

    private static void doorsAndTrucksOfIt() {
        DockTurns x = Checks.told(ONE_EACH);
        int[][] doors = {{0, 0, 1, 2, 2}, {1, 25, 1, 5, 2}};
        int[][] trucks = {
            {0, 0, NONE, NONE, 2, NONE, 0, 0, 0, 1, 2, 0, 0},
            {1, 0, 0, 5, 10, 3, 1, 0, 0, 4, 2, 0, 0}};
        for (int d = 0; d < 2; d++) {
            for (int what = 0; what < 5; what++) {
                checks.due("door(" + d + ", " + what + ")", x.door(d, what), doors[d][what]);
            }
            for (int what = 0; what < 13; what++) {
                checks.due("truck(" + d + ", " + what + ")", x.truck(d, what), trucks[d][what]);
            }
        }
        checks.due("load for 0", x.truck(0, 20), 2);
        for (int what = 21; what < 24; what++) {
            checks.due("load", x.truck(0, what), 0);
            checks.due("load of an out one", x.truck(1, what - 1), 0);
        }
        for (int odd : new int[] {-1, 5, Integer.MIN_VALUE, Integer.MAX_VALUE}) {
            checks.dueNoSuchElement("door(0, " + odd + ")", () -> x.door(0, odd));
            checks.dueNoSuchElement("door(" + odd + ", 0)", () -> x.door(odd, 0));
            checks.dueNoSuchElement("truck(" + odd + ", 0)", () -> x.truck(odd, 0));
            checks.due("row(" + odd + ", 0)", x.row(odd, 0), NONE);
            checks.due("row(0, " + odd + ")", x.row(0, odd), NONE);
        }
        for (int odd : new int[] {-1, 13, 19, 24, Integer.MIN_VALUE, Integer.MAX_VALUE}) {
            checks.dueNoSuchElement("truck(0, " + odd + ")", () -> x.truck(0, odd));
        }
        checks.dueNoSuchElement("door(2, 0)", () -> x.door(2, 0));
        checks.dueNoSuchElement("truck(2, 0)", () -> x.truck(2, 0));
        checks.due("row(0, 0)", x.row(0, 0), 0);
        checks.due("row(1, 0)", x.row(1, 0), 1);
        checks.due("row(1, 1)", x.row(1, 1), NONE);
        checks.due("row(2, 0)", x.row(2, 0), NONE);
    }

    private static void cartonsAndMinutesOfIt() {
        DockTurns x = Checks.told(ONE_EACH);
        int[][] cartons = {{0, 0, 0, 3, 1, 3}, {0, 0, 1, 4, 1, 3}};
        for (int c = 0; c < 2; c++) {
            for (int what = 0; what < 6; what++) {
                checks.due("carton(" + c + ", " + what + ")", x.carton(c, what), cartons[c][what]);
            }
        }
        for (int odd : new int[] {-1, 6, Integer.MIN_VALUE, Integer.MAX_VALUE}) {
            checks.dueNoSuchElement("carton(0, " + odd + ")", () -> x.carton(0, odd));
            checks.dueNoSuchElement("carton(" + odd + ", 0)", () -> x.carton(odd, 0));
        }
        checks.dueNoSuchElement("carton(2, 0)", () -> x.carton(2, 0));
        int[] staged = {1, 2, 2, 1, 0, 0};
        for (int minute = 0; minute < staged.length; minute++) {
            checks.due("staged(" + minute + ")", x.staged(minute, NONE), staged[minute]);
            checks.due("staged(" + minute + ", 0)", x.staged(minute, 0), staged[minute]);
            checks.due("staged(" + minute + ", 3)", x.staged(minute, 3), 0);
            checks.due("at(0, " + minute + ")", x.at(0, minute), minute <= 1 ? 0 : NONE);
            checks.due("at(1, " + minute + ")", x.at(1, minute), minute <= 4 ? 1 : NONE);
        }
        checks.due("staged(199)", x.staged(199, NONE), 0);
        checks.due("staged(200)", x.staged(200, NONE), NONE);
        checks.due("staged(-1)", x.staged(-1, NONE), NONE);
        checks.due("staged(0, 4)", x.staged(0, 4), NONE);
        checks.due("staged(0, -2)", x.staged(0, -2), NONE);
        checks.due("at(0, -1)", x.at(0, -1), NONE);
        checks.due("at(0, 200)", x.at(0, 200), NONE);
        checks.due("at(2, 0)", x.at(2, 0), NONE);
        checks.due("at(-1, 0)", x.at(-1, 0), NONE);
    }

    private static void roomOfTheStaging() {
        DockTurns x = Checks.told("door in 0;door out 0;staging 1;in 0 3 0 0 0;out 0 0 1 10 2;");
        checks.due("cost", x.count(6), 7);
        checks.due("late times weight", x.count(8), 4);
        checks.due("late", x.truck(1, 11), 2);
        checks.due("most staged", x.count(11), 1);
        checks.due("when first", x.count(12), 0);
        checks.due("the one in the way is put on ahead", x.carton(1, 2), 1);
        checks.due("nothing idle", x.count(18), 0);
    }

    private static void idleMinutes() {
        DockTurns x = Checks.told("door in 0;door out 30;staging 1;in 0 3 0 0 0;out 0 0 1 10 2;");
        int[] off = {0, 3, 6};
        for (int c = 0; c < 3; c++) {
            checks.due("off", x.carton(c, 2), off[c]);
            checks.due("on", x.carton(c, 3), off[c] + 3);
        }
        checks.due("idle", x.count(18), 4);
        checks.due("minutes at the door", x.door(0, 3), 7);
        DockTurns w = Checks.told("door in 0;door out 0;in 0 1 0 0 0;out 0 0 9 9 1;");
        checks.due("most staged, in the first minute", w.count(11), 1);
        checks.due("in the first minute", w.count(12), 0);
        DockTurns y = Checks.told("door in 0;door in 0;staging 1;in 0 1 0 0 0;in 0 1 0 0 0;");
        checks.due("the second waits for ever", y.count(18), 200);
        DockTurns z = Checks.told("door in 0;door in 0;staging 0;in 0 1 0 0 0;in 10 1 0 0 0;");
        checks.due("both wait, together", z.count(18), 390);
    }

    private static void nothingCanBeStaged() {
        DockTurns x = Checks.told("door in 0;door out 0;staging 0;in 0 3 0 0 0;out 5 0 1 10 2;");
        checks.due("cost", x.count(6), 698);
        checks.due("none is put on", x.count(7), 0);
        checks.due("none staged", x.count(11), 0);
        checks.due("never", x.count(12), NONE);
        checks.due("none leaves", x.count(13), NONE);
        checks.due("both stay", x.count(14), 2);
        checks.due("late", x.truck(1, 11), 199);
        checks.due("leaves", x.truck(1, 9), NONE);
        checks.due("stands to the end", x.at(1, 199), 1);
        checks.due("not ahead of its arrival", x.at(1, 4), NONE);
        checks.due("all its minutes", x.door(1, 3), 195);
        checks.due("idle", x.count(18), 200);
        checks.due("off", x.carton(0, 2), NONE);
        checks.due("on", x.carton(0, 3), NONE);
        checks.due("on which", x.carton(0, 4), NONE);
        checks.due("travel of it", x.carton(0, 5), NONE);
    }

    private static void doorsAreFreedByChange() {
        for (int change = 0; change <= 9; change++) {
            DockTurns x = Checks.told("door in 0;door out 0;in 0 1 0 0 0;in 0 1 0 0 0;out 0 0 99 40 1;change " + change + ";");
            checks.due("the first leaves", x.truck(0, 9), 0);
            checks.due("the second docks", x.truck(1, 8), change + 1);
            checks.due("none in between", x.at(0, change), change == 0 ? 0 : NONE);
            checks.due("out leaves", x.truck(2, 9), change + 2);
        }
    }

    private static void fullTrucksLeave() {
        DockTurns x = Checks.told("door in 0;door out 0;in 0 3 0 0 0;out 0 0 9 2 1;");
        checks.due("leaves when full", x.truck(1, 9), 2);
        checks.due("has its room", x.truck(1, 10), 2);
        checks.due("one is left", x.carton(2, 3), NONE);
        checks.due("off it is", x.carton(2, 2), 2);
        checks.due("cost", x.count(6), 102);
        checks.due("staged for ever", x.staged(199, 0), 1);
    }

    private static void nothingToWaitFor() {
        DockTurns x = Checks.told("door out 5;out 7 2 3 1 4;");
        checks.due("docks", x.truck(0, 8), 7);
        checks.due("the last that leaves", x.count(13), 7);
        checks.due("leaves", x.truck(0, 9), 7);
        checks.due("cost", x.count(6), 16);
        checks.due("a minute there", x.door(0, 3), 1);
        checks.due("in that minute", x.at(0, 7), 0);
        checks.due("not behind it", x.at(0, 8), NONE);
        DockTurns y = Checks.told("door in 0;door in 0;door out 0;in 0 1 0 0 0;in 99 1 0 0 0;out 0 0 199 9 1;");
        checks.due("waits for one that comes yet", y.truck(2, 9), 100);
    }

    private static void severalAtOneDoor() {
        DockTurns x = Checks.told("door in 0;door in 0;staging 4;change 5;in 0 3 0 0 0;in 0 2 0 0 0;in 0 1 0 0 0;in 9 1 0 0 0;");
        checks.dueRow("rows", x, 0, 0, 2);
        checks.dueRow("rows", x, 1, 1, 3);
        // 0 and 1 take off by turns till four are staged; the last of truck 0 and all behind it wait for ever.
        checks.due("truck 1 leaves", x.truck(1, 9), 1);
        checks.due("truck 0 does not", x.truck(0, 9), NONE);
        checks.due("truck 2 never docks", x.truck(2, 8), NONE);
        checks.due("truck 3 docks", x.truck(3, 8), 9);
        checks.due("minutes at the first door", x.door(0, 3), 200);
        checks.due("minutes at the second door", x.door(1, 3), 2 + 191);
        checks.due("cartons off at the first door", x.door(0, 4), 2);
        checks.due("cartons off at the second door", x.door(1, 4), 2);
        checks.due("idle", x.count(18), 198 + 191);
        checks.due("do not leave", x.count(14), 3);
        checks.due("cost", x.count(6), 700);
    }

    private static void trucksInNoRow() {
        DockTurns x = Checks.told("in 0 1 2 0 0;out 0 1 150 4 2;");
        checks.due("cost", x.count(6), 400);
        checks.due("late", x.truck(1, 11), 50);
        checks.due("do not leave", x.count(14), 2);
        for (int what = 6; what <= 9; what++) {
            checks.due("truck(1, " + what + ")", x.truck(1, what), NONE);
        }
        DockTurns y = Checks.told("door out 5;in 0 1 0 0 0;out 3 0 0 1 1;");
        checks.due("cartons of no row are not waited for", y.truck(1, 9), 3);
        checks.due("but cost", y.count(6), 103);
    }

    private static void whichCartonIsFirst() {
        DockTurns x = Checks.told("door in 0;door in 0;door out 0;in 0 1 0 0 0;in 0 1 0 0 0;out 0 0 99 9 1;");
        checks.due("swap", x.swap(0, 1), 3);
        checks.due("at the first door", x.at(0, 0), 1);
        checks.due("of one minute the least number", x.carton(0, 3), 1);
        checks.due("then the other", x.carton(1, 3), 2);
        DockTurns y = Checks.told("door in 0;door in 0;door out 0;in 1 1 0 0 0;in 0 1 0 0 0;out 0 0 99 9 1;");
        checks.due("off first", y.carton(1, 3), 1);
        checks.due("off later", y.carton(0, 3), 2);
        DockTurns z = Checks.told("door in 0;door in 0;door out 0;in 1 1 0 0 0;in 0 1 0 0 0;out 5 0 99 9 1;");
        checks.due("off first, though both are long there", z.carton(1, 3), 5);
        checks.due("off later", z.carton(0, 3), 6);
    }

    private static void farCartonsComeLater() {
        DockTurns x = Checks.told("door in 50;door in 0;door out 0;in 0 1 0 0 0;in 2 1 0 0 0;out 0 0 99 9 1;");
        checks.due("the near one", x.carton(1, 3), 3);
        checks.due("the far one", x.carton(0, 3), 5);
        checks.due("travel of the near one", x.carton(1, 5), 0);
        checks.due("travel of the far one", x.carton(0, 5), 5);
        checks.due("cost", x.count(6), 11);
    }

    private static void destinationsApart() {
        DockTurns x = Checks.told("door in 0;door out 0;door out 0;in 0 1 2 0 0;out 0 1 99 9 1;out 0 0 99 9 1;");
        checks.due("for 0", x.carton(0, 4), 2);
        checks.due("for 1", x.carton(1, 4), 1);
        checks.due("for 1", x.carton(2, 4), 1);
        checks.due("staged for 0", x.staged(0, 0), 1);
        checks.due("staged for 1", x.staged(0, 1), 0);
        checks.due("staged for 1", x.staged(1, 1), 1);
        checks.due("leaves when its own are on", x.truck(2, 9), 1);
        checks.due("leaves when its own are on", x.truck(1, 9), 3);
    }

    private static void sameMinuteAtTwoDoors() {
        DockTurns x = Checks.told("door out 0;door out 0;door in 0;staging 2;in 0 3 0 0 0;out 3 0 99 9 1;out 3 0 99 1 1;");
        checks.due("the first door takes the first", x.carton(0, 4), 1);
        checks.due("the second door the second", x.carton(1, 4), 2);
        checks.due("in the same minute", x.carton(1, 3), 3);
        checks.due("then there is room again", x.carton(2, 2), 3);
        checks.due("and the last goes on", x.carton(2, 3), 4);
    }

    private static void outBeforeIn() {
        DockTurns x = Checks.told("door in 0;door out 0;staging 1;in 0 2 0 0 0;out 4 0 99 9 1;");
        checks.due("put on in the minute of docking", x.carton(0, 3), 4);
        checks.due("which makes room in that minute", x.carton(1, 2), 4);
        checks.due("one minute at least", x.carton(1, 3), 5);
    }

    private static void nobodyDocksTooEarly() {
        DockTurns x = Checks.told("door in 0;in 3 1 0 0 0;in 9 1 0 0 0;");
        checks.due("place", x.place(1, 0, 0), 200);
        checks.due("the first of the row is waited for", x.truck(1, 8), 9);
        checks.due("though another is there", x.truck(0, 8), 12);
    }

    private static void lastMinute() {
        DockTurns x = Checks.told("door in 0;door out 99;staging 1;change 9;in 99 9 0 0 0;in 99 1 0 0 0;out 99 0 199 40 9;");
        checks.due("the ninth goes off", x.carton(8, 2), 179);
        checks.due("then it leaves", x.truck(0, 9), 179);
        checks.due("the next one docks", x.truck(1, 8), 189);
        checks.due("the ninth goes on", x.carton(8, 3), 189);
        checks.due("the tenth goes off", x.carton(9, 2), 189);
        checks.due("and on in the last minute", x.carton(9, 3), 199);
        checks.due("the last one leaves then", x.count(13), 199);
        checks.due("it is not late", x.truck(2, 11), 0);
        DockTurns y = Checks.told("door in 0;door out 99;staging 1;change 9;in 99 10 0 0 0;in 99 1 0 0 0;out 99 0 199 40 9;");
        checks.due("one docks in the last minute", y.truck(1, 8), 199);
        checks.due("and leaves in it", y.truck(1, 9), 199);
        checks.due("its carton goes off", y.carton(10, 2), 199);
        checks.due("but not on any more", y.carton(10, 3), NONE);
        checks.due("it stands there at the end", y.staged(199, NONE), 1);
        checks.due("out stays", y.truck(2, 9), NONE);
        checks.due("late by one", y.truck(2, 11), 1);
    }

    private static void travel() {
        DockTurns x = Checks.told("door in 0;door out 1;door in 10;door out 11;door in 99;door out 0;");
        int[][] want = {
            {0, 1, 1, 2, 10, 0}, {1, 0, 1, 1, 10, 1}, {1, 1, 0, 1, 9, 1},
            {2, 1, 1, 0, 9, 2}, {10, 10, 9, 9, 0, 10}, {0, 1, 1, 2, 10, 0}};
        for (int one = 0; one < 6; one++) {
            for (int other = 0; other < 6; other++) {
                checks.due("travel(" + one + ", " + other + ")", x.travel(one, other), want[one][other]);
            }
        }
        checks.due("travel(0, 6)", x.travel(0, 6), NONE);
        checks.due("travel(6, 0)", x.travel(6, 0), NONE);
        checks.due("travel(-1, 0)", x.travel(-1, 0), NONE);
        checks.due("travel(0, -1)", x.travel(0, -1), NONE);
    }
}
