import java.util.NoSuchElementException;
import java.util.Random;

/** Runs of calls by chance (the same ones each time), each answered by the class and by the Model. */
public final class ModelTest {
    private static final int UNSUCH = Integer.MIN_VALUE;
    // The document promises nothing behind an object's 512th call.
    private static final int MOST_CALLS = 512;
    private final Random chance;
    private final Checks checks;
    private final DockTurns x = new DockTurns();
    private final Model m = new Model();
    private final StringBuilder told = new StringBuilder();
    private int calls;

    private ModelTest(long seed, Checks checks) {
        this.chance = new Random(seed);
        this.checks = checks;
    }

    public static void main(String[] args) {
        int runs = args.length > 0 ? Integer.parseInt(args[0]) : 600;
        Checks checks = new Checks();
        for (int seed = 1; seed <= runs; seed++) {
            new ModelTest(seed, checks).runOnce(seed);
        }
        checks.end();
    }

    private int below(int n) {
        return chance.nextInt(n);
    }

    private boolean oneIn(int n) {
        return below(n) == 0;
    }

    private String number(int low, int high) {
        int value = low + below(high - low + 1);
        return oneIn(25) ? String.format("%03d", value) : String.valueOf(value);
    }

    private String statement(int kind, boolean busy) {
        switch (kind) {
            case 0: return "door in " + number(0, 99) + ";";
            case 1: return "door out " + number(0, 99) + ";";
            case 2:
                int most = busy ? 9 : 4;
                return "in " + number(0, busy ? 30 : 99) + " " + number(0, most) + " " + number(0, most)
                    + " " + number(0, 2) + " " + number(0, 1) + ";";
            case 3:
                return "out " + number(0, 60) + " " + number(0, oneIn(2) ? 1 : 3) + " " + number(0, oneIn(2) ? 40 : 199)
                    + " " + number(1, oneIn(2) ? 6 : 40) + " " + number(1, 9) + ";";
            case 4: return "staging " + number(0, oneIn(2) ? 5 : 40) + ";";
            default: return "change " + number(0, 9) + ";";
        }
    }

    private String text() {
        StringBuilder s = new StringBuilder();
        int doors = 1 + below(6);
        int trucks = 1 + below(8);
        boolean busy = oneIn(2);
        for (int i = 0; i < doors; i++) {
            s.append(statement(i < 2 && !oneIn(8) ? i : below(2), busy));
        }
        for (int i = 0; i < trucks; i++) {
            s.append(statement(i < 2 && !oneIn(8) ? 2 + i : 2 + below(2), busy));
        }
        while (oneIn(2)) {
            s.append(statement(4 + below(2), busy));
        }
        if (oneIn(5)) {
            s.append(statement(below(6), busy));
        }
        while (oneIn(6)) {
            spoil(s);
        }
        return s.toString();
    }

    private static final String[] ODD = {
        " ", "\n", ";", "9", "99", "100", "0", "door", "in", "out", "x", "A", "\t", "\u00e9", "16", "41", "1000", "-",
        "staging 41;", "change 10;", "in 0 0 0 0 0;", "in 1 15 15 15 15;", "in 1 16 0 0 0;", "out 0 4 0 0 0;",
        "door in 100;", "out 100 0 200 41 10;"};

    private void spoil(StringBuilder s) {
        int at = below(s.length() + 1);
        if (oneIn(3) && s.length() > 0) {
            int from = below(s.length());
            s.delete(from, Math.min(s.length(), from + 1 + below(4)));
        } else {
            s.insert(at > s.length() ? s.length() : oneIn(2) ? Math.max(0, s.lastIndexOf(";", at) + 1) : at,
                ODD[below(ODD.length)]);
        }
    }

    private void same(String call, long got, long want) {
        calls++;
        if (got == want) {
            checks.asDue();
        } else {
            checks.due("after " + told + ": " + call, got, want);
        }
    }

    private boolean mayCall() {
        return calls < MOST_CALLS;
    }

    private void tell(String text) {
        for (int i = 0; i < text.length() && mayCall();) {
            int many = Math.min(text.length() - i, oneIn(3) ? 1 + below(8) : 8);
            long eight = Checks.eight(text.substring(i, i + many));
            same("type", x.type(eight), m.type(eight));
            i += many;
        }
    }

    private void runOnce(int seed) {
        told.append("seed ").append(seed);
        tell(text());
        same("read", x.read(), m.read());
        while (mayCall()) {
            if (oneIn(6)) {
                call();
            } else {
                ask();
            }
        }
    }

    private void call() {
        int t = below(10) - 1;
        int u = below(10) - 1;
        int d = below(8) - 1;
        int k = below(6) - 1;
        int by = oneIn(3) ? below(110) - 3 : 1 + below(20);
        int kind = below(40);
        told.append(" ").append(kind);
        if (kind < 8) {
            same("place " + t + " " + d + " " + k, x.place(t, d, k), m.place(t, d, k));
        } else if (kind < 12) {
            same("swap " + t + " " + u, x.swap(t, u), m.swap(t, u));
        } else if (kind < 15) {
            same("late " + t + " " + by, x.late(t, by), m.late(t, by));
        } else if (kind < 16) {
            int minute = oneIn(4) ? below(210) - 5 : below(30);
            same("now " + minute, x.now(minute) ? 1 : 0, m.now(minute) ? 1 : 0);
        } else if (kind < 19) {
            same("step", x.step(), m.step());
        } else if (kind < 20) {
            same("repair", x.repair(), m.repair());
        } else if (kind < 24) {
            same("undo", x.undo(), m.undo());
        } else if (kind < 28) {
            same("would " + t + " " + d + " " + k, x.would(t, d, k), m.would(t, d, k));
        } else if (kind < 31) {
            same("delayed " + t + " " + by, x.delayed(t, by), m.delayed(t, by));
        } else if (kind < 33) {
            int staging = below(45) - 2;
            same("roomy " + staging, x.roomy(staging), m.roomy(staging));
        } else if (kind < 34) {
            same("least", x.least(), m.least());
        } else if (kind < 36) {
            int i = below(5) - 1;
            same("image " + i, x.image(i) ? 1 : 0, m.image(i) ? 1 : 0);
        } else if (kind < 37) {
            int i = below(5) - 1;
            same("again " + i, x.again(i) ? 1 : 0, m.again(i) ? 1 : 0);
        } else if (kind < 39) {
            tell(oneIn(3) ? text() : ODD[below(ODD.length)]);
        } else if (oneIn(3)) {
            same("read", x.read(), m.read());
        }
    }

    private interface Asked {
        int answer();
    }

    private static int orUnsuch(Asked asked) {
        try {
            return asked.answer();
        } catch (NoSuchElementException e) {
            return UNSUCH;
        }
    }

    private void ask() {
        int t = below(10) - 1;
        int d = below(8) - 1;
        int k = below(10) - 1;
        int c = below(42) - 1;
        int minute = oneIn(3) ? below(204) - 2 : below(60);
        boolean yes = oneIn(2);
        switch (below(12)) {
            case 0: same("fault " + yes, x.fault(yes), m.fault(yes)); break;
            case 1: same("moves " + yes, x.moves(yes), m.moves(yes)); break;
            case 2: same("row " + d + " " + k, x.row(d, k), m.row(d, k)); break;
            case 3: same("travel " + d + " " + k, x.travel(d, k), m.travel(d, k)); break;
            case 4: same("staged " + minute + " " + d, x.staged(minute, d), m.staged(minute, d)); break;
            case 5: same("at " + d + " " + minute, x.at(d, minute), m.at(d, minute)); break;
            case 6: askDoor(d, below(7) - 1); break;
            case 7: askTruck(t, below(26) - 1); break;
            case 8: askCarton(c, below(8) - 1); break;
            case 9: askTruck(t, 6 + below(7)); break;
            case 10: askCarton(c, 2 + below(4)); break;
            default: askCount(below(21) - 1); break;
        }
    }

    private void askCount(int what) {
        same("count " + what, x.count(what), m.count(what));
    }

    private void askDoor(int d, int what) {
        same("door " + d + " " + what, orUnsuch(() -> x.door(d, what)), orUnsuch(() -> m.door(d, what)));
    }

    private void askTruck(int t, int what) {
        same("truck " + t + " " + what, orUnsuch(() -> x.truck(t, what)), orUnsuch(() -> m.truck(t, what)));
    }

    private void askCarton(int c, int what) {
        same("carton " + c + " " + what, orUnsuch(() -> x.carton(c, what)), orUnsuch(() -> m.carton(c, what)));
    }
}
