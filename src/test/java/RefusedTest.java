import java.util.NoSuchElementException;
import java.util.function.Supplier;

/** "Questions change nothing. Refused calls change nothing, unless it is said": each of them, and what it answers. */
public final class RefusedTest {
    private static final Checks checks = new Checks();
    private static final int NONE = DockTurns.NONE;
    private static final int CAN_NOT_BE = -2;
    private static final int UNSUCH = Integer.MIN_VALUE;
    private static final int LEAST = Integer.MIN_VALUE;
    private static final int MOST = Integer.MAX_VALUE;
    private static final String THREE = "door in 0;door in 10;door out 20;"
        + "in 0 1 0 0 0;in 0 2 0 0 0;in 5 1 0 0 0;out 0 0 10 9 1;";

    private interface Asked {
        int answer(DockTurns x);
    }

    public static void main(String[] args) {
        typeBeyond400();
        readWithAFault();
        placeNone();
        placeThatCanNotBe();
        swapNone();
        swapThatCanNotBe();
        lateRefused();
        nowRefused();
        stepAndRepairWithoutOne();
        undoWithoutOne();
        questionsOfNoSuchThing();
        whatWouldBeRefused();
        imagesRefused();
        questionsAnswered();
        aNewObjectRefuses();
        checks.end();
    }

    private static DockTurns calm() {
        DockTurns x = Checks.told(THREE);
        x.image(1);
        return x;
    }

    /** Row 0: trucks 1, 2; row 1: truck 0; row 2: truck 3; all but 2 are FIXED; 3 ACTS, 2 images, a FAULT, a TEXT. */
    private static DockTurns busy() {
        DockTurns x = Checks.told(THREE);
        Checks.typeAll(x, "door x");
        x.read();
        Checks.typeAll(x, "door in 3;in 0 0 0 0 2;");
        x.image(0);
        x.late(2, 4);
        x.swap(0, 1);
        x.now(1);
        x.image(2);
        return x;
    }

    /** Trucks 2 and 3 have no DOOR of their kind. */
    private static DockTurns halves() {
        DockTurns x = Checks.told("door in 0;in 0 1 0 0 0;in 3 1 0 0 0;out 0 0 9 9 1;out 1 0 9 9 1;");
        x.late(3, 2);
        return x;
    }

    private static DockTurns withoutAStep() {
        DockTurns x = Checks.told("door in 0;door out 25;in 0 2 0 0 0;out 0 0 5 10 3;");
        x.now(3);
        return x;
    }

    private static int orUnsuch(DockTurns x, Asked call) {
        try {
            return call.answer(x);
        } catch (NoSuchElementException e) {
            return UNSUCH;
        }
    }

    private static void dueAndUnchanged(Supplier<DockTurns> made, String what, int want, Asked call) {
        checks.due(what, orUnsuch(made.get(), call), want);
        Whole.dueUnchanged(checks, what, made, x -> orUnsuch(x, call));
    }

    private static void unchanged(Supplier<DockTurns> made, String what, Asked call) {
        Whole.dueUnchanged(checks, what, made, call::answer);
    }

    /** A DOOR of 399 bytes, so that one byte more would still be one. */
    private static DockTurns almostFull() {
        DockTurns x = calm();
        Checks.typeAll(x, "change 7" + " ".repeat(390) + ";");
        return x;
    }

    private static DockTurns quiteFull() {
        DockTurns x = almostFull();
        x.type(Checks.eight(" "));
        return x;
    }

    private static void typeBeyond400() {
        dueAndUnchanged(RefusedTest::almostFull, "two bytes behind 399", NONE, x -> x.type(Checks.eight("  ")));
        dueAndUnchanged(RefusedTest::almostFull, "eight bytes behind 399", NONE, x -> x.type(-1L));
        dueAndUnchanged(RefusedTest::quiteFull, "a byte behind 400", NONE, x -> x.type(Checks.eight("x")));
        dueAndUnchanged(RefusedTest::quiteFull, "eight bytes behind 400", NONE, x -> x.type(Checks.eight("change 1")));
        dueAndUnchanged(RefusedTest::quiteFull, "no byte behind 400", 400, x -> x.type(0));
        dueAndUnchanged(RefusedTest::busy, "no byte, for the first is 0", 23, x -> x.type(0x003b3b3b3b3b3b3bL));
    }

    /** Busy, but without a TEXT; the FAULT of the latest read() is 1 at 5. */
    private static DockTurns busyWithoutText() {
        DockTurns x = Checks.told(THREE);
        Checks.typeAll(x, "door x");
        x.read();
        x.image(0);
        x.late(2, 4);
        x.swap(0, 1);
        x.now(1);
        return x;
    }

    private static void readWithAFault() {
        Whole.dueUnchanged(checks, "all but the TEXT and the FAULT stays", RefusedTest::busyWithoutText, x -> {
            Checks.typeAll(x, "door 5;staging 3;change 3;in 0 9 9 9 9;door out 7;");
            checks.due("a FAULT", x.read(), NONE);
            checks.due("the FAULT", x.fault(false), 1);
            checks.due("its place", x.fault(true), 5);
        });
        DockTurns x = busyWithoutText();
        String[] texts = {"door in 100;", "in 0 0 0 0 0;", "staging 41;", "out 0 0 0 0 1;", "door in 5;door", "?"};
        int[] faults = {2, 4, 2, 2, 1, 1};
        int[] places = {8, 0, 8, 10, 14, 0};
        for (int i = 0; i < texts.length; i++) {
            Checks.typeAll(x, texts[i]);
            checks.due("a FAULT", x.read(), NONE);
            checks.due("the FAULT of the latest", x.fault(false), faults[i]);
            checks.due("its place", x.fault(true), places[i]);
            checks.due("the TEXT is empty then", x.count(17), 0);
            checks.due("ACTS stay", x.count(16), 3);
            checks.due("DOORS stay", x.count(0), 3);
            checks.due("TRUCKS stay", x.count(1), 4);
            checks.due("STAGING stays", x.count(3), 10);
            checks.due("NOW stays", x.count(5), 1);
        }
    }

    private static void placeNone() {
        int[] odd = {NONE, 4, LEAST, MOST};
        for (int truck : odd) {
            dueAndUnchanged(RefusedTest::busy, "place(): no such TRUCK " + truck, NONE, x -> x.place(truck, 0, 1));
        }
        for (int door : new int[] {NONE, 3, LEAST, MOST}) {
            dueAndUnchanged(RefusedTest::busy, "place(): no such DOOR " + door, NONE, x -> x.place(2, door, 0));
        }
        dueAndUnchanged(RefusedTest::busy, "place(): an IN one at an OUT DOOR", NONE, x -> x.place(2, 2, 1));
        dueAndUnchanged(RefusedTest::busy, "place(): an OUT one at an IN DOOR", NONE, x -> x.place(3, 0, 1));
        dueAndUnchanged(RefusedTest::busy, "place(): 2 is more than the other one of its own ROW", NONE, x -> x.place(2, 0, 2));
        dueAndUnchanged(RefusedTest::busy, "place(): 2 is more than the one of another ROW", NONE, x -> x.place(2, 1, 2));
        dueAndUnchanged(RefusedTest::busy, "place(): far more", NONE, x -> x.place(2, 1, MOST));
        dueAndUnchanged(RefusedTest::busy, "place(): less than none", NONE, x -> x.place(2, 1, NONE));
        dueAndUnchanged(RefusedTest::busy, "place(): far less", NONE, x -> x.place(2, 1, LEAST));
        dueAndUnchanged(RefusedTest::busy, "place(): it is there already", NONE, x -> x.place(2, 0, 1));
        dueAndUnchanged(RefusedTest::busy, "place(): a FIXED one is there already", NONE, x -> x.place(0, 1, 0));
        dueAndUnchanged(RefusedTest::halves, "place(): no DOOR of its kind", NONE, x -> x.place(2, 0, 0));
        dueAndUnchanged(RefusedTest::halves, "place(): in no ROW, and no DOOR", NONE, x -> x.place(2, NONE, NONE));
    }

    private static void placeThatCanNotBe() {
        dueAndUnchanged(RefusedTest::busy, "place(): a FIXED one, elsewhere", CAN_NOT_BE, x -> x.place(0, 0, 2));
        dueAndUnchanged(RefusedTest::busy, "place(): a FIXED one, among others", CAN_NOT_BE, x -> x.place(0, 0, 1));
        dueAndUnchanged(RefusedTest::busy, "place(): a FIXED one, in its own ROW", CAN_NOT_BE, x -> x.place(1, 0, 1));
        dueAndUnchanged(RefusedTest::busy, "place(): ahead of a FIXED one of its ROW", CAN_NOT_BE, x -> x.place(2, 0, 0));
        dueAndUnchanged(RefusedTest::busy, "place(): ahead of a FIXED one of another ROW", CAN_NOT_BE, x -> x.place(2, 1, 0));
    }

    private static void swapNone() {
        for (int odd : new int[] {NONE, 4, LEAST, MOST}) {
            dueAndUnchanged(RefusedTest::busy, "swap(): no such first one " + odd, NONE, x -> x.swap(odd, 2));
            dueAndUnchanged(RefusedTest::busy, "swap(): no such other one " + odd, NONE, x -> x.swap(2, odd));
        }
        dueAndUnchanged(RefusedTest::busy, "swap(): they are one", NONE, x -> x.swap(2, 2));
        dueAndUnchanged(RefusedTest::busy, "swap(): they are one, a FIXED one", NONE, x -> x.swap(0, 0));
        dueAndUnchanged(RefusedTest::busy, "swap(): unlike kinds", NONE, x -> x.swap(2, 3));
        dueAndUnchanged(RefusedTest::busy, "swap(): unlike kinds", NONE, x -> x.swap(3, 2));
        dueAndUnchanged(RefusedTest::halves, "swap(): both in no ROW", NONE, x -> x.swap(2, 3));
        dueAndUnchanged(RefusedTest::halves, "swap(): one of the other kind in no ROW", NONE, x -> x.swap(0, 2));
    }

    private static void swapThatCanNotBe() {
        dueAndUnchanged(RefusedTest::busy, "swap(): both FIXED", CAN_NOT_BE, x -> x.swap(0, 1));
        dueAndUnchanged(RefusedTest::busy, "swap(): the first one FIXED", CAN_NOT_BE, x -> x.swap(0, 2));
        dueAndUnchanged(RefusedTest::busy, "swap(): the other one FIXED", CAN_NOT_BE, x -> x.swap(2, 1));
    }

    private static void lateRefused() {
        for (int truck : new int[] {NONE, 4, LEAST, MOST}) {
            dueAndUnchanged(RefusedTest::busy, "late(): no such TRUCK " + truck, NONE, x -> x.late(truck, 1));
        }
        for (int by : new int[] {0, NONE, 100, LEAST, MOST}) {
            dueAndUnchanged(RefusedTest::busy, "late(): by " + by, NONE, x -> x.late(2, by));
        }
        dueAndUnchanged(RefusedTest::busy, "late(): 9 and 91 are more than 99", NONE, x -> x.late(2, 91));
        dueAndUnchanged(RefusedTest::busy, "late(): 9 and 99 are more than 99", NONE, x -> x.late(2, 99));
        dueAndUnchanged(RefusedTest::busy, "late(): a FIXED IN one", CAN_NOT_BE, x -> x.late(0, 1));
        dueAndUnchanged(RefusedTest::busy, "late(): a FIXED IN one, the most", CAN_NOT_BE, x -> x.late(1, 99));
        dueAndUnchanged(RefusedTest::busy, "late(): a FIXED OUT one", CAN_NOT_BE, x -> x.late(3, 1));
        dueAndUnchanged(RefusedTest::busy, "late(): a FIXED one by another number", NONE, x -> x.late(0, 0));
    }

    private static void nowRefused() {
        for (int minute : new int[] {1, 0, NONE, LEAST}) {
            dueAndUnchanged(RefusedTest::busy, "now(): no later one, " + minute, 0, x -> x.now(minute) ? 1 : 0);
        }
        for (int minute : new int[] {200, 201, MOST}) {
            dueAndUnchanged(RefusedTest::busy, "now(): above 199, " + minute, 0, x -> x.now(minute) ? 1 : 0);
        }
        dueAndUnchanged(RefusedTest::calm, "now(): 0 is no later one at first", 0, x -> x.now(0) ? 1 : 0);
    }

    private static void stepAndRepairWithoutOne() {
        dueAndUnchanged(RefusedTest::withoutAStep, "step(): there is none", NONE, DockTurns::step);
        dueAndUnchanged(RefusedTest::withoutAStep, "repair(): there is none", NONE, DockTurns::repair);
        dueAndUnchanged(RefusedTest::halves, "step(): none without doors", NONE, DockTurns::step);
        dueAndUnchanged(RefusedTest::halves, "repair(): none without doors", NONE, DockTurns::repair);
    }

    private static void undoWithoutOne() {
        dueAndUnchanged(RefusedTest::calm, "undo(): none can", NONE, DockTurns::undo);
        Supplier<DockTurns> emptied = () -> {
            DockTurns x = busy();
            for (int i = 0; i < 3; i++) {
                x.undo();
            }
            return x;
        };
        dueAndUnchanged(emptied, "undo(): none can any more", NONE, DockTurns::undo);
    }

    private static void questionsOfNoSuchThing() {
        for (int what : new int[] {NONE, 19, 20, LEAST, MOST}) {
            dueAndUnchanged(RefusedTest::busy, "count(" + what + ")", NONE, x -> x.count(what));
        }
        for (int odd : new int[] {NONE, 5, LEAST, MOST}) {
            dueAndUnchanged(RefusedTest::busy, "door(0, " + odd + ")", UNSUCH, x -> x.door(0, odd));
            dueAndUnchanged(RefusedTest::busy, "door(" + odd + ", 0)", UNSUCH, x -> x.door(odd, 0));
            dueAndUnchanged(RefusedTest::busy, "row(0, " + odd + ")", NONE, x -> x.row(0, odd));
            dueAndUnchanged(RefusedTest::busy, "row(" + odd + ", 0)", NONE, x -> x.row(odd, 0));
            dueAndUnchanged(RefusedTest::busy, "at(" + odd + ", 0)", NONE, x -> x.at(odd, 0));
            dueAndUnchanged(RefusedTest::busy, "travel(" + odd + ", 0)", NONE, x -> x.travel(odd, 0));
            dueAndUnchanged(RefusedTest::busy, "travel(0, " + odd + ")", NONE, x -> x.travel(0, odd));
            dueAndUnchanged(RefusedTest::busy, "carton(" + odd + ", 0)", UNSUCH, x -> x.carton(odd, 0));
        }
        for (int what : new int[] {NONE, 13, 19, 24, LEAST, MOST}) {
            dueAndUnchanged(RefusedTest::busy, "truck(0, " + what + ")", UNSUCH, x -> x.truck(0, what));
        }
        for (int truck : new int[] {NONE, 4, LEAST, MOST}) {
            dueAndUnchanged(RefusedTest::busy, "truck(" + truck + ", 0)", UNSUCH, x -> x.truck(truck, 0));
            dueAndUnchanged(RefusedTest::busy, "truck(" + truck + ", 20)", UNSUCH, x -> x.truck(truck, 20));
        }
        for (int what : new int[] {NONE, 6, LEAST, MOST}) {
            dueAndUnchanged(RefusedTest::busy, "carton(0, " + what + ")", UNSUCH, x -> x.carton(0, what));
        }
        for (int minute : new int[] {NONE, 200, LEAST, MOST}) {
            dueAndUnchanged(RefusedTest::busy, "staged(" + minute + ")", NONE, x -> x.staged(minute, 0));
            dueAndUnchanged(RefusedTest::busy, "at(0, " + minute + ")", NONE, x -> x.at(0, minute));
        }
        for (int destination : new int[] {-2, 4, LEAST, MOST}) {
            dueAndUnchanged(RefusedTest::busy, "staged(0, " + destination + ")", NONE, x -> x.staged(0, destination));
        }
    }

    private static void whatWouldBeRefused() {
        dueAndUnchanged(RefusedTest::busy, "would(): no such TRUCK", NONE, x -> x.would(4, 0, 1));
        dueAndUnchanged(RefusedTest::busy, "would(): no such DOOR", NONE, x -> x.would(2, 3, 0));
        dueAndUnchanged(RefusedTest::busy, "would(): of the other kind", NONE, x -> x.would(2, 2, 1));
        dueAndUnchanged(RefusedTest::busy, "would(): k is too much", NONE, x -> x.would(2, 1, 2));
        dueAndUnchanged(RefusedTest::busy, "would(): it is there already", NONE, x -> x.would(2, 0, 1));
        dueAndUnchanged(RefusedTest::busy, "would(): a FIXED one", CAN_NOT_BE, x -> x.would(0, 0, 2));
        dueAndUnchanged(RefusedTest::busy, "would(): ahead of a FIXED one", CAN_NOT_BE, x -> x.would(2, 1, 0));
        dueAndUnchanged(RefusedTest::halves, "would(): no DOOR of its kind", NONE, x -> x.would(2, 0, 0));
        for (int truck : new int[] {NONE, 4, LEAST, MOST}) {
            dueAndUnchanged(RefusedTest::busy, "delayed(): no such TRUCK " + truck, NONE, x -> x.delayed(truck, 1));
        }
        for (int by : new int[] {0, NONE, 100, LEAST, MOST}) {
            dueAndUnchanged(RefusedTest::busy, "delayed(): by " + by, NONE, x -> x.delayed(0, by));
        }
        dueAndUnchanged(RefusedTest::busy, "delayed(): 9 and 91 are more than 99", NONE, x -> x.delayed(2, 91));
        for (int staging : new int[] {NONE, 41, LEAST, MOST}) {
            dueAndUnchanged(RefusedTest::busy, "roomy(" + staging + ")", NONE, x -> x.roomy(staging));
        }
    }

    private static void imagesRefused() {
        for (int k : new int[] {NONE, 3, LEAST, MOST}) {
            dueAndUnchanged(RefusedTest::busy, "image(" + k + ")", 0, x -> x.image(k) ? 1 : 0);
            dueAndUnchanged(RefusedTest::busy, "again(" + k + ")", 0, x -> x.again(k) ? 1 : 0);
        }
        dueAndUnchanged(RefusedTest::busy, "again(1): nothing is kept there", 0, x -> x.again(1) ? 1 : 0);
    }

    private static void questionsAnswered() {
        for (boolean yes : new boolean[] {false, true}) {
            unchanged(RefusedTest::busy, "fault(" + yes + ")", x -> x.fault(yes));
            unchanged(RefusedTest::busy, "moves(" + yes + ")", x -> x.moves(yes));
        }
        unchanged(RefusedTest::busy, "all counts", x -> {
            int sum = 0;
            for (int what = 0; what <= 18; what++) {
                sum += x.count(what);
            }
            return sum;
        });
        unchanged(RefusedTest::busy, "door", x -> x.door(2, 4));
        unchanged(RefusedTest::busy, "row", x -> x.row(0, 1));
        unchanged(RefusedTest::busy, "truck", x -> x.truck(3, 11));
        unchanged(RefusedTest::busy, "carton", x -> x.carton(3, 5));
        unchanged(RefusedTest::busy, "staged", x -> x.staged(3, NONE));
        unchanged(RefusedTest::busy, "at", x -> x.at(2, 3));
        unchanged(RefusedTest::busy, "travel", x -> x.travel(2, 0));
        unchanged(RefusedTest::busy, "would", x -> x.would(2, 1, 1));
        unchanged(RefusedTest::calm, "would, ahead of all", x -> x.would(2, 1, 0));
        unchanged(RefusedTest::busy, "delayed", x -> x.delayed(2, 90));
        unchanged(RefusedTest::busy, "delayed, a FIXED one", x -> x.delayed(0, 99));
        unchanged(RefusedTest::busy, "roomy, the least", x -> x.roomy(0));
        unchanged(RefusedTest::busy, "roomy, the most", x -> x.roomy(40));
        unchanged(RefusedTest::busy, "least", DockTurns::least);
    }

    private static void aNewObjectRefuses() {
        Supplier<DockTurns> fresh = DockTurns::new;
        dueAndUnchanged(fresh, "new: place", NONE, x -> x.place(0, 0, 0));
        dueAndUnchanged(fresh, "new: swap", NONE, x -> x.swap(0, 1));
        dueAndUnchanged(fresh, "new: late", NONE, x -> x.late(0, 1));
        dueAndUnchanged(fresh, "new: now", 0, x -> x.now(0) ? 1 : 0);
        dueAndUnchanged(fresh, "new: step", NONE, DockTurns::step);
        dueAndUnchanged(fresh, "new: repair", NONE, DockTurns::repair);
        dueAndUnchanged(fresh, "new: undo", NONE, DockTurns::undo);
        dueAndUnchanged(fresh, "new: read of an empty TEXT", 0, DockTurns::read);
        dueAndUnchanged(fresh, "new: door", UNSUCH, x -> x.door(0, 0));
        dueAndUnchanged(fresh, "new: truck", UNSUCH, x -> x.truck(0, 20));
        dueAndUnchanged(fresh, "new: carton", UNSUCH, x -> x.carton(0, 0));
        dueAndUnchanged(fresh, "new: row", NONE, x -> x.row(0, 0));
        dueAndUnchanged(fresh, "new: at", NONE, x -> x.at(0, 0));
        dueAndUnchanged(fresh, "new: travel", NONE, x -> x.travel(0, 0));
        dueAndUnchanged(fresh, "new: would", NONE, x -> x.would(0, 0, 0));
        dueAndUnchanged(fresh, "new: delayed", NONE, x -> x.delayed(0, 1));
        for (int k = 0; k < 3; k++) {
            int kept = k;
            dueAndUnchanged(fresh, "new: again(" + k + ")", 0, x -> x.again(kept) ? 1 : 0);
        }
    }
}
