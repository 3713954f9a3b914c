import java.util.function.Consumer;
import java.util.function.Supplier;

/** All that an object answers, told line by line: two objects that differ in anything differ in a line of it. */
final class Whole {
    // The document promises nothing behind an object's 512th call; a test's own calls come ahead of these.
    private static final int MOST_CALLS = 450;
    private static final int[] MINUTES = {0, 1, 2, 5, 9, 199};
    // What is too much to be asked of one object is asked of several that were made alike, a part of each.
    private static final int PARTS = 9;
    private final DockTurns x;
    private final boolean actsToo;
    private final StringBuilder told = new StringBuilder();
    private int calls;

    private Whole(DockTurns x, boolean actsToo) {
        this.x = x;
        this.actsToo = actsToo;
    }

    /** The object is used up by this: its acts are undone, its text is read, its images are called again. */
    private static String[] of(DockTurns x, boolean actsToo, int part) {
        Whole whole = new Whole(x, actsToo);
        whole.tellPart(part);
        if (whole.calls > MOST_CALLS) {
            throw new IllegalStateException("too many calls for one object: " + whole.calls);
        }
        return whole.told.toString().split("\n");
    }

    /** Two objects made alike, of which one is called once more, answer alike whatever they are asked. */
    static void dueUnchanged(Checks checks, String what, Supplier<DockTurns> made, Consumer<DockTurns> call) {
        for (int part = 0; part < PARTS; part++) {
            DockTurns called = made.get();
            call.accept(called);
            compare(checks, what, of(called, true, part), of(made.get(), true, part));
        }
    }

    static void dueAlike(Checks checks, String what, DockTurns one, DockTurns other) {
        compare(checks, what, of(one, true, 0), of(other, true, 0));
    }

    static void dueAlikeButForActs(Checks checks, String what, DockTurns one, DockTurns other) {
        compare(checks, what, of(one, false, 0), of(other, false, 0));
    }

    private static void compare(Checks checks, String what, String[] got, String[] want) {
        for (int i = 0; i < got.length && i < want.length; i++) {
            if (!got[i].equals(want[i])) {
                checks.due(what + ": " + got[i] + " is not " + want[i], false, true);
                return;
            }
        }
        checks.due(what + ": as much is told", got.length, want.length);
    }

    private void line(String call, long answer) {
        calls++;
        told.append(call).append(" = ").append(answer).append('\n');
    }

    private int howMany(int what) {
        calls++;
        return x.count(what);
    }

    private void tellPart(int part) {
        switch (part) {
            case 0: tell(); break;
            case 1: tellMinutesAt(0); tellMinutesAt(1); break;
            case 2: tellMinutesAt(2); tellMinutesAt(3); break;
            case 3: tellMinutesAt(4); tellMinutesAt(5); break;
            case 4: tellMinutesStaged(DockTurns.NONE); tellMinutesStaged(0); break;
            case 5: tellMinutesStaged(1); tellMinutesStaged(2); break;
            case 6: tellMinutesStaged(3); tellRoomy(); break;
            case 7: tellWould(); break;
            case 8: tellDelayed(); break;
            default: throw new IllegalStateException("no such part: " + part);
        }
    }

    private void tellMinutesAt(int door) {
        for (int minute = 0; minute < 200; minute++) {
            line("at(" + door + ", " + minute + ")", x.at(door, minute));
        }
    }

    private void tellMinutesStaged(int destination) {
        for (int minute = 0; minute < 200; minute++) {
            line("staged(" + minute + ", " + destination + ")", x.staged(minute, destination));
        }
    }

    private void tellRoomy() {
        for (int staging = 0; staging <= 40; staging++) {
            line("roomy(" + staging + ")", x.roomy(staging));
        }
    }

    private void tellWould() {
        int doors = howMany(0);
        int trucks = howMany(1);
        for (int truck = 0; truck < trucks; truck++) {
            for (int door = 0; door < doors; door++) {
                for (int k = 0; k < trucks; k++) {
                    line("would(" + truck + ", " + door + ", " + k + ")", x.would(truck, door, k));
                }
            }
        }
    }

    /** Of eight trucks every second number only, lest the calls be too many. */
    private void tellDelayed() {
        int trucks = howMany(1);
        for (int truck = 0; truck < trucks; truck++) {
            for (int by = 1; by <= 99; by += trucks > 4 ? 2 : 1) {
                line("delayed(" + truck + ", " + by + ")", x.delayed(truck, by));
            }
        }
    }

    private void tell() {
        tellCounts(18);
        tellDoors();
        tellTrucks();
        tellCartons();
        tellWhatWouldBe();
        if (actsToo) {
            tellActs();
        }
        line("read()", x.read());
        tellCounts(6);
        tellPlan();
        for (int k = 0; k < 3; k++) {
            boolean was = x.again(k);
            line("again(" + k + ")", was ? 1 : 0);
            if (was) {
                tellCounts(6);
                line("count(17)", x.count(17));
                tellPlan();
            }
        }
    }

    private void tellActs() {
        for (int left = 0; left != DockTurns.NONE;) {
            left = x.undo();
            line("undo()", left);
            tellPlan();
        }
    }

    private void tellCounts(int last) {
        line("fault(false)", x.fault(false));
        line("fault(true)", x.fault(true));
        for (int what = 0; what <= last; what++) {
            if (actsToo || what != 16) {
                line("count(" + what + ")", x.count(what));
            }
        }
    }

    private void tellDoors() {
        int doors = howMany(0);
        for (int door = 0; door < doors; door++) {
            for (int what = 0; what <= 4; what++) {
                line("door(" + door + ", " + what + ")", x.door(door, what));
            }
            int truck = 0;
            for (int k = 0; truck != DockTurns.NONE; k++) {
                truck = x.row(door, k);
                line("row(" + door + ", " + k + ")", truck);
            }
            for (int minute : MINUTES) {
                line("at(" + door + ", " + minute + ")", x.at(door, minute));
            }
            for (int other = 0; other < doors; other++) {
                line("travel(" + door + ", " + other + ")", x.travel(door, other));
            }
        }
    }

    private void tellTrucks() {
        int trucks = howMany(1);
        for (int truck = 0; truck < trucks; truck++) {
            for (int what = 0; what <= 23; what = what == 12 ? 20 : what + 1) {
                line("truck(" + truck + ", " + what + ")", x.truck(truck, what));
            }
        }
    }

    private void tellCartons() {
        int cartons = howMany(2);
        for (int carton = 0; carton < cartons; carton++) {
            // Its TRUCK and DESTINATION are told by the LOADS of the TRUCKS.
            for (int what = 2; what <= 5; what++) {
                line("carton(" + carton + ", " + what + ")", x.carton(carton, what));
            }
        }
        for (int minute : MINUTES) {
            for (int destination = DockTurns.NONE; destination <= 3; destination++) {
                line("staged(" + minute + ", " + destination + ")", x.staged(minute, destination));
            }
        }
    }

    private void tellWhatWouldBe() {
        line("moves(false)", x.moves(false));
        line("moves(true)", x.moves(true));
        line("least()", x.least());
        line("roomy(0)", x.roomy(0));
        line("roomy(40)", x.roomy(40));
    }

    private void tellPlan() {
        line("count(5)", x.count(5));
        line("count(6)", x.count(6));
        int trucks = howMany(1);
        for (int truck = 0; truck < trucks; truck++) {
            line("truck(" + truck + ", 1)", x.truck(truck, 1));
            line("truck(" + truck + ", 6)", x.truck(truck, 6));
            line("truck(" + truck + ", 7)", x.truck(truck, 7));
        }
    }
}
