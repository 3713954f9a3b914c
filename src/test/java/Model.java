import java.util.ArrayDeque;
import java.util.ArrayList;
import java.util.Arrays;
import java.util.Deque;
import java.util.List;
import java.util.NoSuchElementException;
import java.util.regex.Matcher;
import java.util.regex.Pattern;

/**
 * The document once more, written as plainly as it is told and with lists where the class has numbers,
 * so that a slip in one of the two shows as a difference.
 */
final class Model {
    static final class Door {
        boolean out;
        int spot;
    }

    static final class Truck {
        boolean out;
        int number;
        int arrives;
        int[] loads = new int[4];
        int destination = -1;
        int due = -1;
        int room = -1;
        int weight = -1;

        Truck copy() {
            Truck t = new Truck();
            t.out = out;
            t.number = number;
            t.arrives = arrives;
            t.loads = loads.clone();
            t.destination = destination;
            t.due = due;
            t.room = room;
            t.weight = weight;
            return t;
        }
    }

    static final class Carton {
        int number;
        int truck;
        int destination;
        int off = -1;
        int on = -1;
        int onto = -1;
        int offDoor = -1;
        int travel = -1;
    }

    static final class State {
        List<Door> doors = new ArrayList<>();
        List<Truck> trucks = new ArrayList<>();
        List<List<Integer>> rows = new ArrayList<>();
        int staging = 10;
        int change = 2;
        int now = 0;

        State copy() {
            State s = new State();
            s.doors.addAll(doors);
            for (Truck t : trucks) {
                s.trucks.add(t.copy());
            }
            for (List<Integer> row : rows) {
                s.rows.add(new ArrayList<>(row));
            }
            s.staging = staging;
            s.change = change;
            s.now = now;
            return s;
        }

        int doorOf(int truck) {
            for (int d = 0; d < rows.size(); d++) {
                if (rows.get(d).contains(truck)) {
                    return d;
                }
            }
            return -1;
        }

        int travel(int one, int other) {
            int difference = Math.abs(doors.get(one).spot - doors.get(other).spot);
            return difference / 10 + (difference % 10 == 0 ? 0 : 1);
        }
    }

    static final class Kept {
        String text;
        int fault;
        int place;
        State state;
    }

    /** The run, with a table of all minutes. */
    static final class Played {
        List<Carton> cartons = new ArrayList<>();
        int[] docks;
        int[] leaves;
        int[] handled;
        int[][] at;
        int[][] staged = new int[200][4];
        int idle;
        int lateAll;
        int cost;

        Played(State s) {
            int n = s.trucks.size();
            docks = new int[n];
            leaves = new int[n];
            handled = new int[n];
            Arrays.fill(docks, -1);
            Arrays.fill(leaves, -1);
            at = new int[s.doors.size()][200];
            int[] stands = new int[s.doors.size()];
            int[] free = new int[s.doors.size()];
            Arrays.fill(stands, -1);
            for (Truck t : s.trucks) {
                for (int d = 0; d < 4; d++) {
                    for (int i = 0; i < t.loads[d]; i++) {
                        Carton c = new Carton();
                        c.number = cartons.size();
                        c.truck = t.number;
                        c.destination = d;
                        cartons.add(c);
                    }
                }
            }
            for (int minute = 0; minute < 200; minute++) {
                for (int d = 0; d < s.doors.size(); d++) {
                    if (stands[d] == -1) {
                        for (int truck : s.rows.get(d)) {
                            if (docks[truck] == -1) {
                                if (s.trucks.get(truck).arrives <= minute && free[d] <= minute) {
                                    docks[truck] = minute;
                                    stands[d] = truck;
                                }
                                break;
                            }
                        }
                    }
                    at[d][minute] = stands[d];
                }
                for (int d = 0; d < s.doors.size(); d++) {
                    if (s.doors.get(d).out && stands[d] != -1) {
                        Truck t = s.trucks.get(stands[d]);
                        Carton chosen = null;
                        for (Carton c : cartons) {
                            if (c.off == -1 || c.on != -1 || c.destination != t.destination) {
                                continue;
                            }
                            int ago = minute - c.off;
                            if (ago < 1 || ago < s.travel(c.offDoor, d)) {
                                continue;
                            }
                            if (chosen == null || c.off < chosen.off
                                    || c.off == chosen.off && c.number < chosen.number) {
                                chosen = c;
                            }
                        }
                        if (chosen != null) {
                            chosen.on = minute;
                            chosen.onto = t.number;
                            chosen.travel = s.travel(chosen.offDoor, d);
                            handled[t.number]++;
                        }
                        if (handled[t.number] == t.room) {
                            leaves[t.number] = minute;
                            stands[d] = -1;
                            free[d] = minute + s.change + 1;
                        }
                    }
                }
                for (int d = 0; d < s.doors.size(); d++) {
                    if (!s.doors.get(d).out && stands[d] != -1) {
                        int truck = stands[d];
                        int standing = 0;
                        for (Carton c : cartons) {
                            if (c.off != -1 && c.on == -1) {
                                standing++;
                            }
                        }
                        boolean took = false;
                        boolean left = false;
                        for (Carton c : cartons) {
                            if (c.truck == truck && c.off == -1) {
                                if (standing < s.staging && !took) {
                                    c.off = minute;
                                    c.offDoor = d;
                                    handled[truck]++;
                                    took = true;
                                } else {
                                    left = true;
                                }
                            }
                        }
                        if (!took) {
                            idle++;
                        }
                        if (!left) {
                            leaves[truck] = minute;
                            stands[d] = -1;
                            free[d] = minute + s.change + 1;
                        }
                    }
                }
                for (int d = 0; d < s.doors.size(); d++) {
                    if (s.doors.get(d).out && stands[d] != -1) {
                        Truck t = s.trucks.get(stands[d]);
                        boolean any = false;
                        for (Carton c : cartons) {
                            if (c.destination == t.destination && c.on == -1 && s.doorOf(c.truck) != -1) {
                                any = true;
                            }
                        }
                        if (!any) {
                            leaves[t.number] = minute;
                            stands[d] = -1;
                            free[d] = minute + s.change + 1;
                        }
                    }
                }
                for (Carton c : cartons) {
                    if (c.off != -1 && c.on == -1) {
                        staged[minute][c.destination]++;
                    }
                }
            }
            for (Truck t : s.trucks) {
                if (t.out) {
                    lateAll += late(t) * t.weight;
                }
            }
            cost = lateAll;
            for (Carton c : cartons) {
                cost += c.on == -1 ? 100 : c.travel + c.on - c.off;
            }
        }

        int late(Truck t) {
            if (!t.out) {
                return 0;
            }
            if (leaves[t.number] == -1) {
                return 200 - t.due;
            }
            return leaves[t.number] > t.due ? leaves[t.number] - t.due : 0;
        }

        int stagedAt(int minute) {
            return staged[minute][0] + staged[minute][1] + staged[minute][2] + staged[minute][3];
        }
    }

    private final StringBuilder text = new StringBuilder();
    private int fault = 0;
    private int faultPlace = -1;
    private State state = new State();
    private Played played = new Played(state);
    private final Deque<State> acts = new ArrayDeque<>();
    private final Kept[] kept = new Kept[3];

    int type(long eight) {
        StringBuilder more = new StringBuilder();
        for (int shift = 56; shift >= 0; shift -= 8) {
            int b = (int) (eight >> shift) & 255;
            if (b == 0) {
                break;
            }
            more.append((char) b);
        }
        if (text.length() + more.length() > 400) {
            return -1;
        }
        text.append(more);
        return text.length();
    }

    private static final class Token {
        char kind; // w word, n number, s sign, x none, e end
        String is = "";
        int place;
    }

    private static List<Token> tokens(String s) {
        List<Token> all = new ArrayList<>();
        Matcher m = Pattern.compile("[a-z]+|[0-9]+|;|[^ \n]", Pattern.DOTALL).matcher(s);
        while (m.find()) {
            Token t = new Token();
            t.is = m.group();
            t.place = m.start();
            t.kind = t.is.matches("[a-z]+") ? 'w' : t.is.matches("[0-9]{1,3}") ? 'n' : t.is.equals(";") ? 's' : 'x';
            all.add(t);
        }
        Token end = new Token();
        end.kind = 'e';
        end.place = s.length();
        all.add(end);
        return all;
    }

    private static boolean fits(Token t, String wanted) {
        switch (wanted) {
            case "N": return t.kind == 'n';
            case ";": return t.kind == 's';
            default: return t.kind == 'w' && t.is.equals(wanted);
        }
    }

    private static final String[] FORMS = {
        "door in N ;", "door out N ;", "in N N N N N ;", "out N N N N N ;", "staging N ;", "change N ;"};

    /** The token that can not stand where it stands, or null; statements found go to found, as rows of tokens. */
    private static Token outOfPlace(List<Token> tokens, List<List<Token>> found) {
        int i = 0;
        while (tokens.get(i).kind != 'e') {
            int farthest = 0;
            List<Token> whole = null;
            for (String form : FORMS) {
                String[] wanted = form.split(" ");
                int j = 0;
                while (j < wanted.length && fits(tokens.get(i + j), wanted[j])) {
                    j++;
                }
                farthest = Math.max(farthest, j);
                if (j == wanted.length) {
                    whole = tokens.subList(i, i + j);
                }
            }
            if (whole == null) {
                return tokens.get(i + farthest);
            }
            found.add(whole);
            i += whole.size();
        }
        return null;
    }

    private static int number(Token t) {
        return Integer.parseInt(t.is);
    }

    int read() {
        String s = text.toString();
        text.setLength(0);
        List<List<Token>> statements = new ArrayList<>();
        Token bad = outOfPlace(tokens(s), statements);
        if (bad != null) {
            fault = 1;
            faultPlace = bad.place;
            return -1;
        }
        List<int[]> faults = new ArrayList<>();
        State fresh = new State();
        int told = 0;
        for (List<Token> st : statements) {
            String first = st.get(0).is;
            int begin = st.get(0).place;
            if (first.equals("door")) {
                limit(faults, st.get(2), 0, 99);
                if (fresh.doors.size() == 6) {
                    faults.add(new int[] {begin, 3});
                    continue;
                }
                Door d = new Door();
                d.out = st.get(1).is.equals("out");
                d.spot = number(st.get(2));
                fresh.doors.add(d);
                fresh.rows.add(new ArrayList<>());
            } else if (first.equals("staging")) {
                limit(faults, st.get(1), 0, 40);
                fresh.staging = number(st.get(1));
            } else if (first.equals("change")) {
                limit(faults, st.get(1), 0, 9);
                fresh.change = number(st.get(1));
            } else {
                if (fresh.trucks.size() == 8) {
                    faults.add(new int[] {begin, 3});
                    continue;
                }
                Truck t = new Truck();
                t.number = fresh.trucks.size();
                t.out = first.equals("out");
                t.arrives = number(st.get(1));
                limit(faults, st.get(1), 0, 99);
                if (t.out) {
                    limit(faults, st.get(2), 0, 3);
                    limit(faults, st.get(3), 0, 199);
                    limit(faults, st.get(4), 1, 40);
                    limit(faults, st.get(5), 1, 9);
                    t.destination = number(st.get(2));
                    t.due = number(st.get(3));
                    t.room = number(st.get(4));
                    t.weight = number(st.get(5));
                } else {
                    int can = 0;
                    int sum = 0;
                    for (int d = 0; d < 4; d++) {
                        int load = number(st.get(2 + d));
                        limit(faults, st.get(2 + d), 0, 15);
                        t.loads[d] = load;
                        sum += load;
                        can += load <= 15 ? load : 0;
                    }
                    if (sum == 0 || told + can > 40) {
                        faults.add(new int[] {begin, 4});
                    }
                    told += told + can > 40 ? 0 : can;
                }
                fresh.trucks.add(t);
            }
        }
        int[] least = null;
        for (int[] f : faults) {
            if (least == null || f[0] < least[0] || f[0] == least[0] && f[1] < least[1]) {
                least = f;
            }
        }
        if (least != null) {
            fault = least[1];
            faultPlace = least[0];
            return -1;
        }
        fault = 0;
        faultPlace = -1;
        List<Truck> sorted = new ArrayList<>(fresh.trucks);
        sorted.sort((a, b) -> a.arrives - b.arrives);
        for (Truck t : sorted) {
            int chosen = -1;
            for (int d = 0; d < fresh.doors.size(); d++) {
                if (fresh.doors.get(d).out == t.out
                        && (chosen == -1 || fresh.rows.get(d).size() < fresh.rows.get(chosen).size())) {
                    chosen = d;
                }
            }
            if (chosen != -1) {
                fresh.rows.get(chosen).add(t.number);
            }
        }
        acts.clear();
        become(fresh);
        return fresh.trucks.size();
    }

    private static void limit(List<int[]> faults, Token t, int low, int high) {
        if (number(t) < low || number(t) > high) {
            faults.add(new int[] {t.place, 2});
        }
    }

    private void become(State s) {
        state = s;
        played = new Played(s);
    }

    private void act(State s) {
        acts.addLast(state);
        if (acts.size() > 8) {
            acts.removeFirst();
        }
        become(s);
    }

    int fault(boolean place) {
        return place ? faultPlace : fault;
    }

    private boolean isTruck(int t) {
        return t >= 0 && t < state.trucks.size();
    }

    private boolean isDoor(int d) {
        return d >= 0 && d < state.doors.size();
    }

    private boolean fixed(int t) {
        return played.docks[t] != -1 && played.docks[t] < state.now;
    }

    private boolean canBe(State s) {
        for (int d = 0; d < state.rows.size(); d++) {
            List<Integer> begins = new ArrayList<>();
            for (int t : state.rows.get(d)) {
                if (fixed(t)) {
                    begins.add(t);
                }
            }
            List<Integer> row = s.rows.get(d);
            if (row.size() < begins.size() || !row.subList(0, begins.size()).equals(begins)) {
                return false;
            }
        }
        return true;
    }

    private State moved(int truck, int door, int k) {
        State s = state.copy();
        for (List<Integer> row : s.rows) {
            row.remove((Integer) truck);
        }
        s.rows.get(door).add(k, truck);
        return s;
    }

    private State swapped(int one, int other) {
        State s = state.copy();
        for (List<Integer> row : s.rows) {
            for (int k = 0; k < row.size(); k++) {
                int t = row.get(k);
                row.set(k, t == one ? other : t == other ? one : t);
            }
        }
        return s;
    }

    private int refusal(int truck, int door, int k) {
        if (!isTruck(truck) || !isDoor(door) || state.trucks.get(truck).out != state.doors.get(door).out) {
            return -1;
        }
        List<Integer> others = new ArrayList<>(state.rows.get(door));
        others.remove((Integer) truck);
        if (k < 0 || k > others.size()) {
            return -1;
        }
        State s = moved(truck, door, k);
        if (s.rows.equals(state.rows)) {
            return -1;
        }
        return canBe(s) ? 0 : -2;
    }

    int place(int truck, int door, int k) {
        int refusal = refusal(truck, door, k);
        if (refusal != 0) {
            return refusal;
        }
        act(moved(truck, door, k));
        return played.cost;
    }

    int swap(int one, int other) {
        if (!isTruck(one) || !isTruck(other) || one == other
                || state.trucks.get(one).out != state.trucks.get(other).out
                || state.doorOf(one) == -1 || state.doorOf(other) == -1) {
            return -1;
        }
        State s = swapped(one, other);
        if (!canBe(s)) {
            return -2;
        }
        act(s);
        return played.cost;
    }

    int late(int truck, int by) {
        if (!isTruck(truck) || by < 1 || by > 99 || state.trucks.get(truck).arrives + by > 99) {
            return -1;
        }
        if (fixed(truck)) {
            return -2;
        }
        State s = state.copy();
        s.trucks.get(truck).arrives += by;
        act(s);
        return s.trucks.get(truck).arrives;
    }

    boolean now(int minute) {
        if (minute <= state.now || minute > 199) {
            return false;
        }
        State s = state.copy();
        s.now = minute;
        act(s);
        return true;
    }

    private State bestStep() {
        State chosen = null;
        int least = played.cost;
        List<State> all = new ArrayList<>();
        for (int t = 0; t < state.trucks.size(); t++) {
            for (int d = 0; d < state.doors.size(); d++) {
                for (int k = 0; k <= 8; k++) {
                    if (refusal(t, d, k) == 0) {
                        all.add(moved(t, d, k));
                    }
                }
            }
        }
        for (int one = 0; one < state.trucks.size(); one++) {
            for (int other = one + 1; other < state.trucks.size(); other++) {
                if (state.trucks.get(one).out == state.trucks.get(other).out
                        && state.doorOf(one) != -1 && state.doorOf(other) != -1) {
                    State s = swapped(one, other);
                    if (canBe(s)) {
                        all.add(s);
                    }
                }
            }
        }
        for (State s : all) {
            int cost = new Played(s).cost;
            if (cost < least) {
                least = cost;
                chosen = s;
            }
        }
        return chosen;
    }

    int step() {
        State s = bestStep();
        if (s == null) {
            return -1;
        }
        act(s);
        return played.cost;
    }

    int repair() {
        State ahead = state;
        int steps = 0;
        while (steps < 5) {
            State s = bestStep();
            if (s == null) {
                break;
            }
            become(s);
            steps++;
        }
        if (steps == 0) {
            return -1;
        }
        State then = state;
        become(ahead);
        act(then);
        return steps;
    }

    int undo() {
        if (acts.isEmpty()) {
            return -1;
        }
        become(acts.removeLast());
        return acts.size();
    }

    int count(int what) {
        List<Carton> on = new ArrayList<>();
        for (Carton c : played.cartons) {
            if (c.on != -1) {
                on.add(c);
            }
        }
        int most = 0;
        int mostMinute = -1;
        for (int m = 0; m < 200; m++) {
            if (played.stagedAt(m) > most) {
                most = played.stagedAt(m);
                mostMinute = m;
            }
        }
        switch (what) {
            case 0: return state.doors.size();
            case 1: return state.trucks.size();
            case 2: return played.cartons.size();
            case 3: return state.staging;
            case 4: return state.change;
            case 5: return state.now;
            case 6: return played.cost;
            case 7: return on.size();
            case 8: return played.lateAll;
            case 9: return on.stream().mapToInt(c -> c.travel).sum();
            case 10: return on.stream().mapToInt(c -> c.on - c.off).sum();
            case 11: return most;
            case 12: return mostMinute;
            case 13: return Arrays.stream(played.leaves).max().orElse(-1);
            case 14: return (int) Arrays.stream(played.leaves).filter(l -> l == -1).count();
            case 15: return (int) state.trucks.stream().filter(t -> fixed(t.number)).count();
            case 16: return acts.size();
            case 17: return text.length();
            case 18: return played.idle;
            default: return -1;
        }
    }

    int door(int door, int what) {
        if (!isDoor(door)) {
            throw new NoSuchElementException();
        }
        switch (what) {
            case 0: return state.doors.get(door).out ? 1 : 0;
            case 1: return state.doors.get(door).spot;
            case 2: return state.rows.get(door).size();
            case 3: return (int) Arrays.stream(played.at[door]).filter(t -> t != -1).count();
            case 4:
                int many = 0;
                for (Carton c : played.cartons) {
                    boolean off = c.off != -1 && c.offDoor == door;
                    boolean on = c.on != -1 && state.doorOf(c.onto) == door;
                    many += off || on ? 1 : 0;
                }
                return many;
            default: throw new NoSuchElementException();
        }
    }

    int row(int door, int k) {
        return isDoor(door) && k >= 0 && k < state.rows.get(door).size() ? state.rows.get(door).get(k) : -1;
    }

    int truck(int truck, int what) {
        if (!isTruck(truck)) {
            throw new NoSuchElementException();
        }
        Truck t = state.trucks.get(truck);
        int door = state.doorOf(truck);
        switch (what) {
            case 0: return t.out ? 1 : 0;
            case 1: return t.arrives;
            case 2: return t.destination;
            case 3: return t.due;
            case 4: return t.out ? t.room : t.loads[0] + t.loads[1] + t.loads[2] + t.loads[3];
            case 5: return t.weight;
            case 6: return door;
            case 7: return door == -1 ? -1 : state.rows.get(door).indexOf(truck);
            case 8: return played.docks[truck];
            case 9: return played.leaves[truck];
            case 10: return played.handled[truck];
            case 11: return played.late(t);
            case 12: return fixed(truck) ? 1 : 0;
            case 20: case 21: case 22: case 23: return t.loads[what - 20];
            default: throw new NoSuchElementException();
        }
    }

    int carton(int carton, int what) {
        if (carton < 0 || carton >= played.cartons.size()) {
            throw new NoSuchElementException();
        }
        Carton c = played.cartons.get(carton);
        switch (what) {
            case 0: return c.truck;
            case 1: return c.destination;
            case 2: return c.off;
            case 3: return c.on;
            case 4: return c.onto;
            case 5: return c.travel;
            default: throw new NoSuchElementException();
        }
    }

    int staged(int minute, int destination) {
        if (minute < 0 || minute > 199 || destination < -1 || destination > 3) {
            return -1;
        }
        return destination == -1 ? played.stagedAt(minute) : played.staged[minute][destination];
    }

    int at(int door, int minute) {
        return isDoor(door) && minute >= 0 && minute <= 199 ? played.at[door][minute] : -1;
    }

    int travel(int one, int other) {
        return isDoor(one) && isDoor(other) ? state.travel(one, other) : -1;
    }

    int would(int truck, int door, int k) {
        int refusal = refusal(truck, door, k);
        return refusal != 0 ? refusal : new Played(moved(truck, door, k)).cost;
    }

    int delayed(int truck, int by) {
        if (!isTruck(truck) || by < 1 || by > 99 || state.trucks.get(truck).arrives + by > 99) {
            return -1;
        }
        State s = state.copy();
        s.trucks.get(truck).arrives += by;
        return new Played(s).cost;
    }

    int roomy(int staging) {
        if (staging < 0 || staging > 40) {
            return -1;
        }
        State s = state.copy();
        s.staging = staging;
        return new Played(s).cost;
    }

    int least() {
        for (int staging = 0; staging <= 40; staging++) {
            if (roomy(staging) <= played.cost) {
                return staging;
            }
        }
        throw new AssertionError("the staging that there is must do");
    }

    int moves(boolean swaps) {
        int many = 0;
        for (int t = 0; t < state.trucks.size(); t++) {
            if (state.doorOf(t) == -1) {
                continue;
            }
            for (int d = 0; !swaps && d < state.doors.size(); d++) {
                for (int k = 0; k <= 8; k++) {
                    many += refusal(t, d, k) == 0 ? 1 : 0;
                }
            }
            for (int u = t + 1; swaps && u < state.trucks.size(); u++) {
                if (state.trucks.get(t).out == state.trucks.get(u).out && state.doorOf(u) != -1
                        && canBe(swapped(t, u))) {
                    many++;
                }
            }
        }
        return many;
    }

    boolean image(int k) {
        if (k < 0 || k > 2) {
            return false;
        }
        kept[k] = new Kept();
        kept[k].text = text.toString();
        kept[k].fault = fault;
        kept[k].place = faultPlace;
        kept[k].state = state.copy();
        return true;
    }

    boolean again(int k) {
        if (k < 0 || k > 2 || kept[k] == null) {
            return false;
        }
        text.setLength(0);
        text.append(kept[k].text);
        fault = kept[k].fault;
        faultPlace = kept[k].place;
        acts.clear();
        become(kept[k].state.copy());
        return true;
    }
}
