/** Promises 1 to 4: a new object, type, read, fault. */
public final class TextTest {
    private static final Checks checks = new Checks();
    private static final int NONE = DockTurns.NONE;

    public static void main(String[] args) {
        newObject();
        bytesCome();
        textIsFull();
        textIsRead();
        nothingOfAnEarlierTextStays();
        firstPlan();
        cartonsAreNumbered();
        tokens();
        outOfPlace();
        numbersThatCanNotBe();
        tooMany();
        loads();
        whichFaultStrikes();
        faultLeavesTheRest();
        readLeavesNoActs();
        checks.end();
    }

    private static void newObject() {
        DockTurns x = new DockTurns();
        int[] atFirst = {0, 0, 0, 10, 2, 0, 0, 0, 0, 0, 0, 0, NONE, NONE, 0, 0, 0, 0, 0};
        for (int what = 0; what < atFirst.length; what++) {
            checks.due("new: count(" + what + ")", x.count(what), atFirst[what]);
        }
        checks.due("new: fault", x.fault(false), 0);
        checks.due("new: fault's place", x.fault(true), NONE);
        checks.due("new: place", x.place(0, 0, 0), NONE);
        checks.due("new: swap", x.swap(0, 1), NONE);
        checks.due("new: late", x.late(0, 1), NONE);
        checks.due("new: step", x.step(), NONE);
        checks.due("new: repair", x.repair(), NONE);
        checks.due("new: undo", x.undo(), NONE);
        checks.due("new: row", x.row(0, 0), NONE);
        checks.due("new: row of no door", x.row(NONE, NONE), NONE);
        checks.due("new: at", x.at(0, 0), NONE);
        checks.due("new: travel", x.travel(0, 0), NONE);
        checks.due("new: staged", x.staged(0, NONE), 0);
        checks.due("new: would", x.would(0, 0, 0), NONE);
        checks.due("new: delayed", x.delayed(0, 1), NONE);
        checks.due("new: roomy", x.roomy(0), 0);
        checks.due("new: least", x.least(), 0);
        checks.due("new: moves", x.moves(false), 0);
        checks.due("new: swaps", x.moves(true), 0);
        checks.due("new: again", x.again(0), false);
        checks.dueNoSuchElement("new: door(0, 0)", () -> new DockTurns().door(0, 0));
        checks.dueNoSuchElement("new: truck(0, 0)", () -> new DockTurns().truck(0, 0));
        checks.dueNoSuchElement("new: carton(0, 0)", () -> new DockTurns().carton(0, 0));
    }

    private static void bytesCome() {
        DockTurns x = new DockTurns();
        checks.due("type of none", x.type(0), 0);
        checks.due("type of eight", x.type(Checks.eight("door in ")), 8);
        checks.due("type up to a 0", x.type(0x35003b3b3b3b3b3bL), 9);
        checks.due("type of a first 0", x.type(0x003b3b3b3b3b3b3bL), 9);
        checks.due("type of one with the highest bit", x.type(0x8000000000000000L), 10);
        checks.due("bytes of the text", x.count(17), 10);
        checks.due("read", x.read(), NONE);
        checks.due("the byte that begins none", x.fault(true), 9);
        checks.due("the text is empty then", x.count(17), 0);
        checks.due("type of eight highest", x.type(-1L), 8);
        x.read();
        checks.due("the first of them begins none", x.fault(true), 0);
    }

    private static void textIsFull() {
        DockTurns x = new DockTurns();
        for (int i = 1; i <= 49; i++) {
            checks.due("type", x.type(Checks.eight("        ")), 8 * i);
        }
        checks.due("up to 396", x.type(Checks.eight("    ")), 396);
        checks.due("401 are too many", x.type(Checks.eight("     ")), NONE);
        checks.due("nothing has come", x.count(17), 396);
        checks.due("404 are too many", x.type(Checks.eight("        ")), NONE);
        checks.due("400 are fine", x.type(Checks.eight("   ;")), 400);
        checks.due("none more is fine", x.type(0), 400);
        checks.due("one more is not", x.type(Checks.eight(" ")), NONE);
        checks.due("read", x.read(), NONE);
        checks.due("the last byte is read", x.fault(true), 399);
    }

    private static void textIsRead() {
        checks.dueRead("", 0);
        checks.dueRead(" \n ", 0);
        checks.dueRead("door in 0;", 0);
        DockTurns x = Checks.told("staging 3;change 0;staging 7;change 9;out 99 3 199 40 9;\nin 0 0 0 0 1 ; door out 99;");
        int[] want = {1, 2, 1, 7, 9, 0};
        for (int what = 0; what < want.length; what++) {
            checks.due("told: count(" + what + ")", x.count(what), want[what]);
        }
        checks.due("kind", x.truck(0, 0), 1);
        checks.due("arrives", x.truck(0, 1), 99);
        checks.due("destination", x.truck(0, 2), 3);
        checks.due("due", x.truck(0, 3), 199);
        checks.due("room", x.truck(0, 4), 40);
        checks.due("weight", x.truck(0, 5), 9);
        checks.due("kind of the second", x.truck(1, 0), 0);
        checks.due("its load for 3", x.truck(1, 23), 1);
        Checks.typeAll(x, "door in 4;");
        x.now(5);
        checks.due("read again", x.read(), 0);
        int[] then = {1, 0, 0, 10, 2, 0, 0};
        for (int what = 0; what < then.length; what++) {
            checks.due("told anew: count(" + what + ")", x.count(what), then[what]);
        }
        checks.due("the one told in the new text", x.door(0, 1), 4);
    }

    private static void nothingOfAnEarlierTextStays() {
        DockTurns x = Checks.told("door in 0;door in 0;door out 9;out 0 1 2 3 4;in 5 1 1 1 1;in 0 2 0 0 0;");
        Checks.typeAll(x, "door out 3;in 0 0 0 0 2;out 7 1 20 2 1;out 7 1 20 2 1;");
        checks.due("read", x.read(), 3);
        checks.due("kind", x.truck(0, 0), 0);
        for (int what = 2; what <= 9; what++) {
            checks.due("truck(0, " + what + ")", x.truck(0, what), what == 4 ? 2 : NONE);
        }
        checks.dueRow("row", x, 0, 1, 2);
        checks.due("cartons", x.count(2), 2);
        checks.due("docks", x.truck(2, 8), 10);
        Checks.typeAll(x, "in 0 1 0 0 0;");
        x.read();
        checks.due("cartons of the one", x.truck(0, 4), 1);
        checks.due("no door for it", x.truck(0, 6), NONE);
    }

    private static void firstPlan() {
        DockTurns x = Checks.told("door out 1;door in 2;door in 3;door out 4;in 5 1 0 0 0;in 3 1 0 0 0;in 5 0 1 0 0;"
            + "in 3 0 0 1 0;out 9 0 0 1 1;in 0 1 0 0 0;out 8 0 0 1 1;out 7 0 0 1 1;");
        checks.dueRow("first plan", x, 0, 7, 4);
        checks.dueRow("first plan", x, 1, 5, 3, 2);
        checks.dueRow("first plan", x, 2, 1, 0);
        checks.dueRow("first plan", x, 3, 6);
        DockTurns y = Checks.told("door out 1;in 0 1 0 0 0;out 0 0 0 1 1;");
        checks.due("no door of its kind", y.truck(0, 6), NONE);
        checks.due("no place there", y.truck(0, 7), NONE);
        checks.due("a door of its kind", y.truck(1, 6), 0);
    }

    private static void cartonsAreNumbered() {
        DockTurns x = Checks.told("in 9 2 0 1 0;out 0 0 0 1 1;in 0 0 1 0 15;");
        checks.due("cartons", x.count(2), 19);
        int[] trucks = {0, 0, 0, 2, 2};
        int[] destinations = {0, 0, 2, 1, 3};
        for (int c = 0; c < trucks.length; c++) {
            checks.due("truck of carton " + c, x.carton(c, 0), trucks[c]);
            checks.due("destination of carton " + c, x.carton(c, 1), destinations[c]);
        }
        checks.due("truck of the last carton", x.carton(18, 0), 2);
        checks.due("destination of the last carton", x.carton(18, 1), 3);
    }

    private static void tokens() {
        checks.dueRead("door in5;door\nout\n7;in1 2 3 4 5;out 007 3 099 1 9;", 2);
        checks.dueRead("staging 040;change 9;", 0);
        checks.dueFault("doorin 5;", 1, 0);
        checks.dueFault("door in 5;doors in 5;", 1, 10);
        checks.dueFault("Door in 5;", 1, 0);
        checks.dueFault("boor in 5;", 1, 0);
        checks.dueFault("doom in 5;", 1, 0);
        checks.dueFault("door an 5;", 1, 5);
        checks.dueFault("door ouz 5;", 1, 5);
        checks.dueFault("on 1 2 3 4 5;", 1, 0);
        checks.dueFault("cut 1 2 3 4 5;", 1, 0);
        checks.dueFault("stabing 5;", 1, 0);
        checks.dueFault("charge 5;", 1, 0);
        checks.dueFault("door iN 5;", 1, 5);
        checks.dueFault("door\tin 5;", 1, 4);
        checks.dueFault("door in 5;\r", 1, 10);
        checks.dueFault("door in 0005;", 1, 8);
        checks.dueFault("door in 1000000000005;", 1, 8);
        checks.dueFault("door in -5;", 1, 8);
        checks.dueFault("door in 5:", 1, 9);
        checks.dueFault("door in 5;{", 1, 10);
        checks.dueFault("door in 5;`", 1, 10);
        checks.dueFault("door in 5;/", 1, 10);
        checks.dueFault("door in 5;\u00ff", 1, 10);
    }

    private static void outOfPlace() {
        checks.dueFault(";", 1, 0);
        checks.dueFault("5", 1, 0);
        checks.dueFault("  dock", 1, 2);
        checks.dueFault("door", 1, 4);
        checks.dueFault("door  ", 1, 6);
        checks.dueFault("door 5;", 1, 5);
        checks.dueFault("door staging 5;", 1, 5);
        checks.dueFault("door in;", 1, 7);
        checks.dueFault("door in in;", 1, 8);
        checks.dueFault("door in 5", 1, 9);
        checks.dueFault("door in 5 6;", 1, 10);
        checks.dueFault("door in 5;;", 1, 10);
        checks.dueFault("in 1 2 3 4;", 1, 10);
        checks.dueFault("in 1 2 3 4 5 6;", 1, 13);
        checks.dueFault("out 1 2 3 4;", 1, 11);
        checks.dueFault("out 1 2 3 4 5", 1, 13);
        checks.dueFault("staging;", 1, 7);
        checks.dueFault("staging 1", 1, 9);
        checks.dueFault("change in 1;", 1, 7);
        checks.dueFault("change 1 \n", 1, 10);
    }

    private static void numbersThatCanNotBe() {
        checks.dueFault("door in 100;", 2, 8);
        checks.dueFault("door out 999;", 2, 9);
        checks.dueFault("in 100 1 1 1 1;", 2, 3);
        checks.dueFault("in 1 16 1 1 1;", 2, 5);
        checks.dueFault("in 1 1 16 1 1;", 2, 7);
        checks.dueFault("in 1 1 1 16 1;", 2, 9);
        checks.dueFault("in 1 1 1 1 16;", 2, 11);
        checks.dueFault("out 100 0 0 1 1;", 2, 4);
        checks.dueFault("out 99 4 0 1 1;", 2, 7);
        checks.dueFault("out 99 3 200 1 1;", 2, 9);
        checks.dueFault("out 99 3 199 0 1;", 2, 13);
        checks.dueFault("out 99 3 199 41 1;", 2, 13);
        checks.dueFault("out 99 3 199 40 0;", 2, 16);
        checks.dueFault("out 99 3 199 40 10;", 2, 16);
        checks.dueFault("staging 41;", 2, 8);
        checks.dueFault("change 10;", 2, 7);
        checks.dueFault("change 10;change 1;", 2, 7);
        checks.dueRead("in 99 15 15 10 0;", 1);
        checks.dueRead("staging 0;change 0;", 0);
        checks.dueRead("out 0 0 0 1 1;", 1);
    }

    private static void tooMany() {
        String six = "door in 1;door in 1;door in 1;door out 1;door out 1;door out 1;";
        checks.dueRead(six, 0);
        checks.dueFault(six + " door in 1;", 3, six.length() + 1);
        checks.dueFault(six + "door out 100;", 3, six.length());
        String eight = "in 1 1 0 0 0;in 1 1 0 0 0;in 1 1 0 0 0;in 1 1 0 0 0;"
            + "out 0 0 0 1 1;out 0 0 0 1 1;out 0 0 0 1 1;out 0 0 0 1 1;";
        checks.dueRead(eight, 8);
        checks.dueFault(eight + "in 1 1 0 0 0;", 3, eight.length());
        checks.dueFault(eight + "out 0 0 0 1 1;", 3, eight.length());
        checks.dueFault(eight + "out 0 0 0 1 1;in 1 1 0 0 0;", 3, eight.length());
        checks.dueRead(eight + six, 8);
    }

    private static void loads() {
        checks.dueFault("in 1 0 0 0 0;", 4, 0);
        checks.dueRead("in 1 15 15 10 0;", 1);
        checks.dueFault("in 1 15 15 11 0;", 4, 0);
        checks.dueFault("in 1 15 15 10 0;in 1 0 0 0 1;", 4, 16);
        checks.dueFault("in 1 15 15 0 0; in 1 11 0 0 0; in 1 10 0 0 0;", 4, 16);
        checks.dueFault("in 1 15 15 11 16;", 4, 0);
        checks.dueFault("in 1 15 15 10 16;", 2, 14);
        checks.dueFault("in 1 0 0 0 16;", 2, 11);
        checks.dueFault("in 100 0 0 0 0;", 4, 0);
    }

    private static void whichFaultStrikes() {
        checks.dueFault("door in 100;in 1 0 0 0 0;door", 1, 29);
        checks.dueFault("door in 100;in 1 0 0 0 0;", 2, 8);
        checks.dueFault("in 1 0 0 0 0;door in 100;", 4, 0);
        checks.dueFault("change 10;staging 41;", 2, 7);
        String eight = "in 1 1 0 0 0;in 1 1 0 0 0;in 1 1 0 0 0;in 1 1 0 0 0;"
            + "out 0 0 0 1 1;out 0 0 0 1 1;out 0 0 0 1 1;out 0 0 0 1 1;";
        checks.dueFault(eight + "in 1 0 0 0 0;", 3, eight.length());
        checks.dueFault(eight + "in 1 15 15 15 15;", 3, eight.length());
        checks.dueFault(eight + "in 1 15 15 15 15", 1, eight.length() + 16);
    }

    private static void faultLeavesTheRest() {
        DockTurns x = Checks.told("door in 0;door out 25;in 0 2 0 0 0;out 0 0 5 10 3;staging 4;");
        x.now(1);
        Checks.typeAll(x, "door in 7;oops");
        checks.due("read", x.read(), NONE);
        checks.due("its fault", x.fault(false), 1);
        checks.due("its place", x.fault(true), 10);
        checks.due("the text is empty", x.count(17), 0);
        checks.due("the doors stay", x.count(0), 2);
        checks.due("the spots stay", x.door(1, 1), 25);
        checks.due("the trucks stay", x.count(1), 2);
        checks.due("staging stays", x.count(3), 4);
        checks.due("now stays", x.count(5), 1);
        checks.due("the cost stays", x.count(6), 12);
        checks.due("the acts stay", x.count(16), 1);
        checks.due("and are undone", x.undo(), 0);
        checks.due("the fault stays then", x.fault(false), 1);
        checks.due("an empty text is read", x.read(), 0);
        checks.due("without a fault", x.fault(false), 0);
        checks.due("without a place", x.fault(true), NONE);
        checks.due("no doors then", x.count(0), 0);
    }

    private static void readLeavesNoActs() {
        DockTurns x = Checks.told("door in 0;in 0 2 0 0 0;");
        x.now(1);
        x.now(2);
        checks.due("acts", x.count(16), 2);
        Checks.typeAll(x, "door in 0;");
        x.read();
        checks.due("none after read", x.count(16), 0);
        checks.due("none can be undone", x.undo(), NONE);
        checks.due("now is as at first", x.count(5), 0);
    }
}
