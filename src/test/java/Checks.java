import java.util.NoSuchElementException;

/** Counts the answers that are not as due, and helps to type texts. */
final class Checks {
    private int wrong = 0;
    private int asked = 0;

    interface Call {
        int answer();
    }

    void due(String what, long got, long want) {
        asked++;
        if (got != want) {
            wrong++;
            System.out.println(what + " answered " + got + ", due is " + want);
        }
    }

    void asDue() {
        asked++;
    }

    void due(String what, boolean got, boolean want) {
        due(what, got ? 1 : 0, want ? 1 : 0);
    }

    void dueNoSuchElement(String what, Call call) {
        asked++;
        try {
            int got = call.answer();
            wrong++;
            System.out.println(what + " answered " + got + ", due is NoSuchElementException");
        } catch (NoSuchElementException expected) {
            // as due
        }
    }

    void dueRow(String what, DockTurns x, int door, int... want) {
        due(what + ": length of row " + door, x.door(door, 2), want.length);
        for (int k = 0; k < want.length; k++) {
            due(what + ": row(" + door + ", " + k + ")", x.row(door, k), want[k]);
        }
        due(what + ": behind row " + door, x.row(door, want.length), DockTurns.NONE);
    }

    void dueFault(String text, int fault, int place) {
        DockTurns x = new DockTurns();
        typeAll(x, text);
        due("read() of '" + text + "'", x.read(), DockTurns.NONE);
        due("fault(false) of '" + text + "'", x.fault(false), fault);
        due("fault(true) of '" + text + "'", x.fault(true), place);
    }

    void dueRead(String text, int trucks) {
        DockTurns x = new DockTurns();
        typeAll(x, text);
        due("read() of '" + text + "'", x.read(), trucks);
        due("fault(false) of '" + text + "'", x.fault(false), 0);
        due("fault(true) of '" + text + "'", x.fault(true), DockTurns.NONE);
    }

    static long eight(String text) {
        long sum = 0;
        for (int i = 0; i < 8; i++) {
            sum = sum << 8 | (i < text.length() ? text.charAt(i) & 255 : 0);
        }
        return sum;
    }

    static void typeAll(DockTurns x, String text) {
        for (int i = 0; i < text.length(); i += 8) {
            x.type(eight(text.substring(i, Math.min(text.length(), i + 8))));
        }
    }

    static DockTurns told(String text) {
        DockTurns x = new DockTurns();
        typeAll(x, text);
        x.read();
        if (x.fault(false) != 0) {
            throw new IllegalStateException("the test's own text has a fault: " + text);
        }
        return x;
    }

    void end() {
        System.out.println(asked + " answers, " + wrong + " not as due");
        if (wrong != 0) {
            System.exit(1);
        }
    }
}
