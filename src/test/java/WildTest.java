import java.util.NoSuchElementException;
import java.util.Random;

/** Calls with any numbers in any state: none throws but where the document says so. */
public final class WildTest {
    private static final Checks checks = new Checks();
    private static final Random chance = new Random(20261117);
    private static final int[] EDGES = {
        Integer.MIN_VALUE, Integer.MIN_VALUE + 1, -200, -100, -2, -1, 0, 1, 2, 3, 4, 5, 6, 7, 8, 9, 39, 40, 41, 98, 99,
        100, 199, 200, 201, 400, Integer.MAX_VALUE - 1, Integer.MAX_VALUE};
    private static final String[] TEXTS = {
        "door in 0;", "door out 50;", "in 0 3 2 1 0;", "out 2 0 9 4 3;", "out 0 1 30 40 9;", "staging 2;", "change 0;",
        "in 9 0 0 0 15;", "x", ";", "1234", " \n", "out", "staging 41;", "in 1 0 0 0 0;"};

    public static void main(String[] args) {
        for (int run = 0; run < 300; run++) {
            runOnce();
        }
        checks.end();
    }

    private static int any() {
        return chance.nextInt(8) == 0 ? chance.nextInt() : EDGES[chance.nextInt(EDGES.length)];
    }

    private static int small() {
        return chance.nextInt(3) == 0 ? any() : chance.nextInt(8);
    }

    private static void runOnce() {
        DockTurns x = chance.nextInt(4) == 0 ? new DockTurns() : Checks.told(whole());
        for (int call = 0; call < 400; call++) {
            int which = chance.nextInt(30);
            try {
                int answer = answerOf(x, which);
                checks.due("an answer below -2, of call " + which, answer >= -2, true);
            } catch (NoSuchElementException e) {
                checks.due("NoSuchElementException of call " + which, which >= 12 && which <= 14, true);
            }
        }
    }

    private static String whole() {
        StringBuilder s = new StringBuilder("door in 9;door out 0;");
        for (int i = 0; i < 4; i++) {
            s.append(chance.nextBoolean() ? "door in " : "door out ").append(chance.nextInt(100)).append(';');
        }
        for (int i = 0; i < 8; i++) {
            boolean brings = chance.nextBoolean();
            s.append(brings ? "in " : "out ").append(chance.nextInt(40)).append(brings ? " 1 2 1 1;" : " 1 20 5 3;");
        }
        return s.toString();
    }

    private static int answerOf(DockTurns x, int which) {
        switch (which) {
            case 0: return x.type(chance.nextInt(20) == 0 ? chance.nextLong() : 0);
            case 1: return x.read();
            case 2: return x.fault(chance.nextBoolean());
            case 3: return x.place(small(), small(), small());
            case 4: return x.swap(small(), small());
            case 5: return x.late(small(), small());
            case 6: return x.now(any()) ? 1 : 0;
            case 7: return x.step();
            case 8: return x.repair();
            case 9: return x.undo();
            case 10: return x.count(any());
            case 11: return x.row(small(), small());
            case 12: return x.door(small(), small());
            case 13: return x.truck(small(), any());
            case 14: return x.carton(small(), small());
            case 15: return x.staged(any(), small());
            case 16: return x.at(small(), any());
            case 17: return x.travel(small(), small());
            case 18: return x.would(small(), small(), small());
            case 19: return x.delayed(small(), any());
            case 20: return x.roomy(any());
            case 21: return x.least();
            case 22: return x.moves(chance.nextBoolean());
            case 23: return x.image(small()) ? 1 : 0;
            case 24: return x.again(small()) ? 1 : 0;
            default:
                String text = TEXTS[chance.nextInt(chance.nextInt(6) == 0 ? TEXTS.length : 7)];
                Checks.typeAll(x, text);
                return 0;
        }
    }
}
