import java.util.Arrays;
import java.util.NoSuchElementException;

/** A planner for a cross dock: trucks are given doors and turns, and a plan is run, priced and bettered. */
public final class DockTurns {
    public static final int NONE = -1;

    private static final int CAN_NOT_BE = -2;
    private static final int ALLOWED = 0;
    private static final int IN = 0;
    private static final int OUT = 1;
    private static final int MINUTES = 200;
    private static final int MOST_DOORS = 6;
    private static final int MOST_TRUCKS = 8;
    private static final int MOST_CARTONS = 40;
    private static final int DESTINATIONS = 4;
    private static final int LATEST_ARRIVAL = 99;
    private static final int LONGEST_DELAY = 99;
    private static final int FARTHEST_SPOT = 99;
    private static final int MOST_LOAD = 15;
    private static final int MOST_ROOM = 40;
    private static final int MOST_WEIGHT = 9;
    private static final int MOST_STAGING = 40;
    private static final int MOST_CHANGE = 9;
    private static final int FIRST_STAGING = 10;
    private static final int FIRST_CHANGE = 2;
    private static final int PRICE_OF_ONE_LEFT = 100;
    private static final int LONGEST_TEXT = 400;
    private static final int BYTES_AT_ONCE = 8;
    private static final int MOST_ACTS = 8;
    private static final int MOST_STEPS = 5;
    private static final int IMAGES = 3;
    private static final int LOAD_QUESTION = 20;

    private final Text text;
    private final Reading reading;
    private final Dock dock;
    private final Plan plan;
    private final Run actual;
    // Questions run a plan of their own, so that asking never touches the plan that stands.
    private final Plan trial;
    private final Run guess;
    private final Plan best;
    private final Acts acts;
    private final Image[] images;
    private int latestFault;
    private int latestFaultPlace;

    public DockTurns() {
        text = new Text();
        reading = new Reading(text);
        dock = new Dock();
        plan = new Plan();
        actual = new Run(dock, plan);
        trial = new Plan();
        guess = new Run(dock, trial);
        best = new Plan();
        acts = new Acts();
        images = new Image[IMAGES];
        for (int k = 0; k < IMAGES; k++) {
            images[k] = new Image();
        }
        latestFault = 0;
        latestFaultPlace = NONE;
    }

    public int type(long eight) {
        int many = Text.bytesIn(eight);
        if (text.length + many > LONGEST_TEXT) {
            return NONE;
        }
        text.append(eight, many);
        return text.length;
    }

    public int read() {
        reading.follow();
        text.length = 0;
        latestFault = reading.fault;
        latestFaultPlace = reading.faultPlace;
        if (latestFault != 0) {
            return NONE;
        }
        dock.copyFrom(reading.told);
        plan.begin(dock);
        acts.many = 0;
        actual.play(dock.staging);
        return dock.trucks;
    }

    public int fault(boolean place) {
        return place ? latestFaultPlace : latestFault;
    }

    public int place(int truck, int door, int k) {
        int refusal = moveRefusal(truck, door, k);
        if (refusal != ALLOWED) {
            return refusal;
        }
        acts.keep(plan);
        plan.relocate(truck, door, k);
        return actual.play(dock.staging);
    }

    public int swap(int one, int other) {
        int refusal = swapRefusal(one, other);
        if (refusal != ALLOWED) {
            return refusal;
        }
        acts.keep(plan);
        plan.exchange(one, other);
        return actual.play(dock.staging);
    }

    public int late(int truck, int by) {
        if (!canBeDelayed(truck, by)) {
            return NONE;
        }
        if (isFixed(truck)) {
            return CAN_NOT_BE;
        }
        acts.keep(plan);
        plan.arrives[truck] += by;
        actual.play(dock.staging);
        return plan.arrives[truck];
    }

    public boolean now(int minute) {
        if (minute <= plan.now || minute >= MINUTES) {
            return false;
        }
        acts.keep(plan);
        plan.now = minute;
        return true;
    }

    public int step() {
        if (!findStep()) {
            return NONE;
        }
        acts.keep(plan);
        return takeStep();
    }

    public int repair() {
        int steps = 0;
        while (steps < MOST_STEPS && findStep()) {
            // All steps of one repair are one act, so only the plan ahead of the first is kept.
            if (steps == 0) {
                acts.keep(plan);
            }
            takeStep();
            steps++;
        }
        return steps == 0 ? NONE : steps;
    }

    public int undo() {
        if (!acts.giveBack(plan)) {
            return NONE;
        }
        actual.play(dock.staging);
        return acts.many;
    }

    public int count(int what) {
        switch (what) {
            case 0: return dock.doors;
            case 1: return dock.trucks;
            case 2: return dock.cartons;
            case 3: return dock.staging;
            case 4: return dock.change;
            case 5: return plan.now;
            case 6: return actual.cost;
            case 7: return actual.putOnInAll();
            case 8: return actual.lateness();
            case 9: return actual.travelled();
            case 10: return actual.minutesStaged();
            case 11: return actual.mostStaged();
            case 12: return actual.firstFullest();
            case 13: return actual.lastLeaving();
            case 14: return actual.neverLeaving();
            case 15: return fixedInAll();
            case 16: return acts.many;
            case 17: return text.length;
            case 18: return actual.idleMinutes();
            default: return NONE;
        }
    }

    public int door(int door, int what) throws NoSuchElementException {
        if (!dock.hasDoor(door)) {
            throw new NoSuchElementException("no such door");
        }
        switch (what) {
            case 0: return dock.doorKind[door];
            case 1: return dock.spot[door];
            case 2: return plan.rowLength(door);
            case 3: return actual.minutesTakenAt(door);
            case 4: return actual.handledAt(door);
            default: throw new NoSuchElementException("a door has no such thing");
        }
    }

    public int row(int door, int k) {
        return dock.hasDoor(door) ? plan.truckAt(door, k) : NONE;
    }

    public int truck(int truck, int what) throws NoSuchElementException {
        if (!dock.hasTruck(truck)) {
            throw new NoSuchElementException("no such truck");
        }
        switch (what) {
            case 0: return dock.kind[truck];
            case 1: return plan.arrives[truck];
            case 2: return dock.destination[truck];
            case 3: return dock.due[truck];
            case 4: return dock.room[truck];
            case 5: return dock.weight[truck];
            case 6: return plan.doorOf[truck];
            case 7: return plan.placeOf[truck];
            case 8: return actual.docks[truck];
            case 9: return actual.leaves[truck];
            case 10: return actual.handled[truck];
            case 11: return actual.lateBy(truck);
            case 12: return isFixed(truck) ? 1 : 0;
            default: break;
        }
        int destination = what < LOAD_QUESTION ? NONE : what - LOAD_QUESTION;
        if (destination < 0 || destination >= DESTINATIONS) {
            throw new NoSuchElementException("a truck has no such thing");
        }
        return dock.loadFor(truck, destination);
    }

    public int carton(int carton, int what) throws NoSuchElementException {
        if (!dock.hasCarton(carton)) {
            throw new NoSuchElementException("no such carton");
        }
        switch (what) {
            case 0: return dock.bringer[carton];
            case 1: return dock.aim[carton];
            case 2: return actual.off[carton];
            case 3: return actual.on[carton];
            case 4: return actual.onto[carton];
            case 5: return actual.way[carton];
            default: throw new NoSuchElementException("a carton has no such thing");
        }
    }

    public int staged(int minute, int destination) {
        if (!isMinute(minute) || destination < NONE || destination >= DESTINATIONS) {
            return NONE;
        }
        return actual.stagedAtEnd(minute, destination);
    }

    public int at(int door, int minute) {
        if (!dock.hasDoor(door) || !isMinute(minute)) {
            return NONE;
        }
        return actual.standingAt(door, minute);
    }

    public int travel(int one, int other) {
        if (!dock.hasDoor(one) || !dock.hasDoor(other)) {
            return NONE;
        }
        return Dock.wayBetween(dock.spot[one], dock.spot[other]);
    }

    public int would(int truck, int door, int k) {
        int refusal = moveRefusal(truck, door, k);
        if (refusal != ALLOWED) {
            return refusal;
        }
        trial.copyFrom(plan);
        trial.relocate(truck, door, k);
        return guess.play(dock.staging);
    }

    public int delayed(int truck, int by) {
        if (!canBeDelayed(truck, by)) {
            return NONE;
        }
        trial.copyFrom(plan);
        trial.arrives[truck] += by;
        return guess.play(dock.staging);
    }

    public int roomy(int staging) {
        if (staging < 0 || staging > MOST_STAGING) {
            return NONE;
        }
        trial.copyFrom(plan);
        return guess.play(staging);
    }

    public int least() {
        trial.copyFrom(plan);
        for (int staging = 0; staging < dock.staging; staging++) {
            if (guess.play(staging) <= actual.cost) {
                return staging;
            }
        }
        return dock.staging;
    }

    public int moves(boolean swaps) {
        return swaps ? swapsThatCanBe() : movesThatCanBe();
    }

    public boolean image(int k) {
        if (k < 0 || k >= images.length) {
            return false;
        }
        Image kept = images[k];
        kept.isKept = true;
        kept.fault = latestFault;
        kept.faultPlace = latestFaultPlace;
        kept.text.copyFrom(text);
        kept.dock.copyFrom(dock);
        kept.plan.copyFrom(plan);
        return true;
    }

    public boolean again(int k) {
        if (k < 0 || k >= images.length || !images[k].isKept) {
            return false;
        }
        Image kept = images[k];
        latestFault = kept.fault;
        latestFaultPlace = kept.faultPlace;
        text.copyFrom(kept.text);
        dock.copyFrom(kept.dock);
        plan.copyFrom(kept.plan);
        acts.many = 0;
        actual.play(dock.staging);
        return true;
    }

    private static boolean isMinute(int minute) {
        return minute >= 0 && minute < MINUTES;
    }

    private boolean isFixed(int truck) {
        return actual.docks[truck] != NONE && actual.docks[truck] < plan.now;
    }

    private int fixedInAll() {
        int many = 0;
        for (int truck = 0; truck < dock.trucks; truck++) {
            if (isFixed(truck)) {
                many++;
            }
        }
        return many;
    }

    private int fixedAt(int door) {
        int many = 0;
        for (int truck = 0; truck < dock.trucks; truck++) {
            if (plan.doorOf[truck] == door && isFixed(truck)) {
                many++;
            }
        }
        return many;
    }

    /**
     * Trucks dock in the order of their row, so the fixed ones stand ahead of all others in it:
     * a row begins as it did if none of them goes and none comes among them.
     * A truck in no row has no door of its kind, so each move of it is refused with NONE.
     */
    private int moveRefusal(int truck, int door, int k) {
        if (!dock.hasTruck(truck) || !dock.hasDoor(door) || dock.kind[truck] != dock.doorKind[door]) {
            return NONE;
        }
        if (k < 0 || k > plan.othersAt(door, truck) || plan.isAt(truck, door, k)) {
            return NONE;
        }
        return isFixed(truck) || k < fixedAt(door) ? CAN_NOT_BE : ALLOWED;
    }

    private int swapRefusal(int one, int other) {
        if (!dock.hasTruck(one) || !dock.hasTruck(other) || one == other) {
            return NONE;
        }
        if (dock.kind[one] != dock.kind[other] || !plan.isInRow(one) || !plan.isInRow(other)) {
            return NONE;
        }
        return isFixed(one) || isFixed(other) ? CAN_NOT_BE : ALLOWED;
    }

    private boolean canBeDelayed(int truck, int by) {
        return dock.hasTruck(truck) && by >= 1 && by <= LONGEST_DELAY
            && plan.arrives[truck] + by <= LATEST_ARRIVAL;
    }

    private int movesThatCanBe() {
        int many = 0;
        for (int truck = 0; truck < dock.trucks; truck++) {
            for (int door = 0; door < dock.doors; door++) {
                for (int k = 0; k < MOST_TRUCKS; k++) {
                    if (moveRefusal(truck, door, k) == ALLOWED) {
                        many++;
                    }
                }
            }
        }
        return many;
    }

    private int swapsThatCanBe() {
        int many = 0;
        for (int one = 0; one < dock.trucks; one++) {
            for (int other = one + 1; other < dock.trucks; other++) {
                if (swapRefusal(one, other) == ALLOWED) {
                    many++;
                }
            }
        }
        return many;
    }

    /** Leaves the plan of the step in best; tells whether there is one. */
    private boolean findStep() {
        return trySwaps(tryMoves(actual.cost)) < actual.cost;
    }

    private int tryMoves(int bound) {
        int lowest = bound;
        for (int truck = 0; truck < dock.trucks; truck++) {
            for (int door = 0; door < dock.doors; door++) {
                for (int k = 0; k < MOST_TRUCKS; k++) {
                    if (moveRefusal(truck, door, k) == ALLOWED) {
                        trial.copyFrom(plan);
                        trial.relocate(truck, door, k);
                        lowest = keepIfLess(lowest);
                    }
                }
            }
        }
        return lowest;
    }

    private int trySwaps(int bound) {
        int lowest = bound;
        for (int one = 0; one < dock.trucks; one++) {
            for (int other = one + 1; other < dock.trucks; other++) {
                if (swapRefusal(one, other) == ALLOWED) {
                    trial.copyFrom(plan);
                    trial.exchange(one, other);
                    lowest = keepIfLess(lowest);
                }
            }
        }
        return lowest;
    }

    private int keepIfLess(int lowest) {
        int cost = guess.play(dock.staging);
        if (cost >= lowest) {
            return lowest;
        }
        best.copyFrom(trial);
        return cost;
    }

    private int takeStep() {
        plan.copyFrom(best);
        return actual.play(dock.staging);
    }

    /** The bytes that have come and are not read yet. */
    private static final class Text {
        final byte[] bytes = new byte[LONGEST_TEXT];
        int length;

        static int byteOf(long eight, int i) {
            return (int) (eight >>> (BYTES_AT_ONCE * (BYTES_AT_ONCE - 1 - i))) & 255;
        }

        static int bytesIn(long eight) {
            int many = 0;
            while (many < BYTES_AT_ONCE && byteOf(eight, many) != 0) {
                many++;
            }
            return many;
        }

        void append(long eight, int many) {
            for (int i = 0; i < many && length < LONGEST_TEXT; i++) {
                bytes[length] = (byte) byteOf(eight, i);
                length++;
            }
        }

        void copyFrom(Text other) {
            System.arraycopy(other.bytes, 0, bytes, 0, LONGEST_TEXT);
            length = other.length;
        }
    }

    /** Doors, trucks and cartons as a text told them; no act changes these. */
    private static final class Dock {
        int doors;
        int trucks;
        int cartons;
        int staging = FIRST_STAGING;
        int change = FIRST_CHANGE;
        final int[] doorKind = new int[MOST_DOORS];
        final int[] spot = new int[MOST_DOORS];
        final int[] kind = new int[MOST_TRUCKS];
        final int[] arrives = new int[MOST_TRUCKS];
        final int[] destination = new int[MOST_TRUCKS];
        final int[] due = new int[MOST_TRUCKS];
        // Of a truck that brings: how many cartons it has, so that either kind leaves when this many are handled.
        final int[] room = new int[MOST_TRUCKS];
        final int[] weight = new int[MOST_TRUCKS];
        final int[] firstCarton = new int[MOST_TRUCKS];
        final int[] bringer = new int[MOST_CARTONS];
        final int[] aim = new int[MOST_CARTONS];

        static int wayBetween(int oneSpot, int otherSpot) {
            int apart = oneSpot < otherSpot ? otherSpot - oneSpot : oneSpot - otherSpot;
            return (apart + 9) / 10;
        }

        void clear() {
            doors = 0;
            trucks = 0;
            cartons = 0;
            staging = FIRST_STAGING;
            change = FIRST_CHANGE;
        }

        boolean hasDoor(int door) {
            return door >= 0 && door < doors;
        }

        boolean hasTruck(int truck) {
            return truck >= 0 && truck < trucks;
        }

        boolean hasCarton(int carton) {
            return carton >= 0 && carton < cartons;
        }

        int loadFor(int truck, int toward) {
            int many = 0;
            for (int carton = 0; carton < cartons; carton++) {
                if (bringer[carton] == truck && aim[carton] == toward) {
                    many++;
                }
            }
            return many;
        }

        void addDoor(int ofKind, int atSpot) {
            if (doors >= MOST_DOORS) {
                return;
            }
            doorKind[doors] = ofKind;
            spot[doors] = atSpot;
            doors++;
        }

        void addBringer(int arrival) {
            if (trucks >= MOST_TRUCKS) {
                return;
            }
            kind[trucks] = IN;
            arrives[trucks] = arrival;
            destination[trucks] = NONE;
            due[trucks] = NONE;
            room[trucks] = 0;
            weight[trucks] = NONE;
            firstCarton[trucks] = cartons;
            trucks++;
        }

        void addCartonToLatest(int toward) {
            if (trucks < 1 || cartons >= MOST_CARTONS) {
                return;
            }
            bringer[cartons] = trucks - 1;
            aim[cartons] = toward;
            room[trucks - 1]++;
            cartons++;
        }

        void addTaker(int arrival, int toward, int dueAt, int space, int heaviness) {
            if (trucks >= MOST_TRUCKS) {
                return;
            }
            kind[trucks] = OUT;
            arrives[trucks] = arrival;
            destination[trucks] = toward;
            due[trucks] = dueAt;
            room[trucks] = space;
            weight[trucks] = heaviness;
            trucks++;
        }

        void copyFrom(Dock other) {
            doors = other.doors;
            trucks = other.trucks;
            cartons = other.cartons;
            staging = other.staging;
            change = other.change;
            System.arraycopy(other.doorKind, 0, doorKind, 0, MOST_DOORS);
            System.arraycopy(other.spot, 0, spot, 0, MOST_DOORS);
            System.arraycopy(other.kind, 0, kind, 0, MOST_TRUCKS);
            System.arraycopy(other.arrives, 0, arrives, 0, MOST_TRUCKS);
            System.arraycopy(other.destination, 0, destination, 0, MOST_TRUCKS);
            System.arraycopy(other.due, 0, due, 0, MOST_TRUCKS);
            System.arraycopy(other.room, 0, room, 0, MOST_TRUCKS);
            System.arraycopy(other.weight, 0, weight, 0, MOST_TRUCKS);
            System.arraycopy(other.firstCarton, 0, firstCarton, 0, MOST_TRUCKS);
            System.arraycopy(other.bringer, 0, bringer, 0, MOST_CARTONS);
            System.arraycopy(other.aim, 0, aim, 0, MOST_CARTONS);
        }
    }

    /** Reads a text into a dock of its own, so that a text with a fault harms nothing. */
    private static final class Reading {
        private static final int END = 0;
        private static final int WORD = 1;
        private static final int NUMBER = 2;
        private static final int SIGN = 3;
        private static final int OTHER = 4;
        private static final int OUT_OF_PLACE = 1;
        private static final int NUMBER_FAULT = 2;
        private static final int TOO_MANY = 3;
        private static final int LOAD_FAULT = 4;
        private static final int MOST_DIGITS = 3;
        private static final int MOST_NUMBERS = 5;

        final Text source;
        final Dock told = new Dock();
        final int[] values = new int[MOST_NUMBERS];
        final int[] places = new int[MOST_NUMBERS];
        int fault;
        int faultPlace = NONE;
        int next;
        int start;
        int kind;
        int value;

        Reading(Text source) {
            this.source = source;
        }

        void follow() {
            told.clear();
            fault = 0;
            faultPlace = NONE;
            next = 0;
            advance();
            // Each statement takes a byte at least, so there are no more of them than bytes.
            for (int n = 0; n < LONGEST_TEXT && kind != END && fault != OUT_OF_PLACE; n++) {
                readStatement();
            }
        }

        /** A token out of its place strikes whatever else is found, wherever that is. */
        private void note(int what, int where) {
            boolean isFirst = fault == 0 || where < faultPlace || (where == faultPlace && what < fault);
            if (what == OUT_OF_PLACE || isFirst) {
                fault = what;
                faultPlace = where;
            }
        }

        private boolean isBetween(int index, int low, int high) {
            return index < source.length && source.bytes[index] >= low && source.bytes[index] <= high;
        }

        private boolean isBlank(int index) {
            return isBetween(index, ' ', ' ') || isBetween(index, '\n', '\n');
        }

        private void advance() {
            while (next < source.length && isBlank(next)) {
                next++;
            }
            start = next;
            if (next >= source.length) {
                kind = END;
            } else if (isBetween(next, 'a', 'z')) {
                kind = WORD;
                passAll('a', 'z');
            } else if (isBetween(next, '0', '9')) {
                passAll('0', '9');
                kind = next - start <= MOST_DIGITS ? NUMBER : OTHER;
                value = kind == NUMBER ? numberRead() : 0;
            } else {
                kind = isBetween(next, ';', ';') ? SIGN : OTHER;
                next++;
            }
        }

        private void passAll(int low, int high) {
            while (next < source.length && isBetween(next, low, high)) {
                next++;
            }
        }

        private int numberRead() {
            int sum = 0;
            for (int i = start; i < next && i < LONGEST_TEXT; i++) {
                sum = sum * 10 + source.bytes[i] - '0';
            }
            return sum;
        }

        private boolean takesWord(String word) {
            if (kind != WORD || next - start != word.length()) {
                return false;
            }
            for (int i = 0; i < word.length(); i++) {
                if (!isBetween(start + i, word.charAt(i), word.charAt(i))) {
                    return false;
                }
            }
            advance();
            return true;
        }

        /** The numbers of a statement and the sign behind them; false if one is missing. */
        private boolean takesNumbers(int many) {
            for (int i = 0; i < many && i < MOST_NUMBERS; i++) {
                if (kind != NUMBER) {
                    note(OUT_OF_PLACE, start);
                    return false;
                }
                values[i] = value;
                places[i] = start;
                advance();
            }
            if (kind != SIGN) {
                note(OUT_OF_PLACE, start);
                return false;
            }
            advance();
            return true;
        }

        private void checkNumber(int i, int low, int high) {
            if (values[i] < low || values[i] > high) {
                note(NUMBER_FAULT, places[i]);
            }
        }

        private void readStatement() {
            int begin = start;
            if (takesWord("door")) {
                readDoor(begin);
            } else if (takesWord("in")) {
                readBringer(begin);
            } else if (takesWord("out")) {
                readTaker(begin);
            } else if (takesWord("staging")) {
                readStaging();
            } else if (takesWord("change")) {
                readChange();
            } else {
                note(OUT_OF_PLACE, start);
            }
        }

        private void readDoor(int begin) {
            boolean isIn = takesWord("in");
            if (!isIn && !takesWord("out")) {
                note(OUT_OF_PLACE, start);
                return;
            }
            if (!takesNumbers(1)) {
                return;
            }
            if (told.doors >= MOST_DOORS) {
                note(TOO_MANY, begin);
            }
            checkNumber(0, 0, FARTHEST_SPOT);
            told.addDoor(isIn ? IN : OUT, values[0]);
        }

        private void readBringer(int begin) {
            if (!takesNumbers(1 + DESTINATIONS)) {
                return;
            }
            checkTruckCount(begin);
            checkNumber(0, 0, LATEST_ARRIVAL);
            int loads = 0;
            boolean isEmpty = true;
            for (int i = 1; i <= DESTINATIONS; i++) {
                checkNumber(i, 0, MOST_LOAD);
                loads += values[i] <= MOST_LOAD ? values[i] : 0;
                isEmpty = isEmpty && values[i] == 0;
            }
            if (isEmpty || told.cartons + loads > MOST_CARTONS) {
                note(LOAD_FAULT, begin);
                return;
            }
            told.addBringer(values[0]);
            for (int i = 1; i <= DESTINATIONS; i++) {
                for (int n = 0; n < values[i] && values[i] <= MOST_LOAD; n++) {
                    told.addCartonToLatest(i - 1);
                }
            }
        }

        private void readTaker(int begin) {
            if (!takesNumbers(MOST_NUMBERS)) {
                return;
            }
            checkTruckCount(begin);
            checkNumber(0, 0, LATEST_ARRIVAL);
            checkNumber(1, 0, DESTINATIONS - 1);
            checkNumber(2, 0, MINUTES - 1);
            checkNumber(3, 1, MOST_ROOM);
            checkNumber(4, 1, MOST_WEIGHT);
            told.addTaker(values[0], values[1], values[2], values[3], values[4]);
        }

        private void checkTruckCount(int begin) {
            if (told.trucks >= MOST_TRUCKS) {
                note(TOO_MANY, begin);
            }
        }

        private void readStaging() {
            if (takesNumbers(1)) {
                checkNumber(0, 0, MOST_STAGING);
                told.staging = values[0];
            }
        }

        private void readChange() {
            if (takesNumbers(1)) {
                checkNumber(0, 0, MOST_CHANGE);
                told.change = values[0];
            }
        }
    }

    /** Whatever an act can change: where each truck has its turn, when it arrives, what is past. */
    private static final class Plan {
        final int[] doorOf = new int[MOST_TRUCKS];
        final int[] placeOf = new int[MOST_TRUCKS];
        final int[] arrives = new int[MOST_TRUCKS];
        int now;

        Plan() {
            Arrays.fill(doorOf, NONE);
            Arrays.fill(placeOf, NONE);
        }

        void begin(Dock dock) {
            now = 0;
            Arrays.fill(doorOf, NONE);
            Arrays.fill(placeOf, NONE);
            System.arraycopy(dock.arrives, 0, arrives, 0, MOST_TRUCKS);
            for (int minute = 0; minute <= LATEST_ARRIVAL; minute++) {
                for (int truck = 0; truck < dock.trucks; truck++) {
                    if (arrives[truck] == minute) {
                        putLast(truck, shortestRow(dock, dock.kind[truck]));
                    }
                }
            }
        }

        private int shortestRow(Dock dock, int kind) {
            int shortest = NONE;
            for (int door = 0; door < dock.doors; door++) {
                if (dock.doorKind[door] == kind
                        && (shortest == NONE || rowLength(door) < rowLength(shortest))) {
                    shortest = door;
                }
            }
            return shortest;
        }

        private void putLast(int truck, int door) {
            if (door != NONE) {
                int k = rowLength(door);
                doorOf[truck] = door;
                placeOf[truck] = k;
            }
        }

        boolean isInRow(int truck) {
            return truck >= 0 && truck < MOST_TRUCKS && doorOf[truck] != NONE;
        }

        boolean isAt(int truck, int door, int k) {
            return doorOf[truck] == door && placeOf[truck] == k;
        }

        int rowLength(int door) {
            int many = 0;
            for (int truck = 0; truck < MOST_TRUCKS; truck++) {
                if (doorOf[truck] == door) {
                    many++;
                }
            }
            return many;
        }

        int othersAt(int door, int truck) {
            return doorOf[truck] == door ? rowLength(door) - 1 : rowLength(door);
        }

        int truckAt(int door, int k) {
            for (int truck = 0; truck < MOST_TRUCKS; truck++) {
                if (isAt(truck, door, k)) {
                    return truck;
                }
            }
            return NONE;
        }

        void relocate(int truck, int door, int k) {
            for (int other = 0; other < MOST_TRUCKS; other++) {
                if (doorOf[other] == doorOf[truck] && placeOf[other] > placeOf[truck]) {
                    placeOf[other]--;
                }
            }
            doorOf[truck] = NONE;
            for (int other = 0; other < MOST_TRUCKS; other++) {
                if (doorOf[other] == door && placeOf[other] >= k) {
                    placeOf[other]++;
                }
            }
            doorOf[truck] = door;
            placeOf[truck] = k;
        }

        void exchange(int one, int other) {
            int door = doorOf[one];
            int k = placeOf[one];
            doorOf[one] = doorOf[other];
            placeOf[one] = placeOf[other];
            doorOf[other] = door;
            placeOf[other] = k;
        }

        void copyFrom(Plan other) {
            System.arraycopy(other.doorOf, 0, doorOf, 0, MOST_TRUCKS);
            System.arraycopy(other.placeOf, 0, placeOf, 0, MOST_TRUCKS);
            System.arraycopy(other.arrives, 0, arrives, 0, MOST_TRUCKS);
            now = other.now;
        }
    }

    /** A plan played minute by minute, and what came of it. */
    private static final class Run {
        final Dock dock;
        final Plan plan;
        final int[] docks = new int[MOST_TRUCKS];
        final int[] leaves = new int[MOST_TRUCKS];
        final int[] handled = new int[MOST_TRUCKS];
        final int[] off = new int[MOST_CARTONS];
        final int[] on = new int[MOST_CARTONS];
        final int[] onto = new int[MOST_CARTONS];
        final int[] way = new int[MOST_CARTONS];
        final int[] fromSpot = new int[MOST_CARTONS];
        final int[] standing = new int[MOST_DOORS];
        final int[] nextUp = new int[MOST_DOORS];
        final int[] freeFrom = new int[MOST_DOORS];
        final int[] waiting = new int[DESTINATIONS];
        final int[] expected = new int[DESTINATIONS];
        int space;
        int stagedNow;
        int underway;
        int cost;

        Run(Dock dock, Plan plan) {
            this.dock = dock;
            this.plan = plan;
            Arrays.fill(docks, NONE);
            Arrays.fill(leaves, NONE);
            Arrays.fill(off, NONE);
            Arrays.fill(on, NONE);
        }

        int play(int staging) {
            space = staging;
            clear();
            lineUp();
            // Once all have left nothing can happen any more.
            for (int minute = 0; minute < MINUTES && underway > 0; minute++) {
                letDock(minute);
                putOn(minute);
                takeOff(minute);
                letGo(minute);
            }
            cost = lateness() + travelled() + minutesStaged()
                + PRICE_OF_ONE_LEFT * (dock.cartons - putOnInAll());
            return cost;
        }

        private void clear() {
            Arrays.fill(docks, NONE);
            Arrays.fill(leaves, NONE);
            Arrays.fill(handled, 0);
            Arrays.fill(off, NONE);
            Arrays.fill(on, NONE);
            Arrays.fill(onto, NONE);
            Arrays.fill(way, NONE);
            Arrays.fill(standing, NONE);
            Arrays.fill(freeFrom, 0);
            Arrays.fill(waiting, 0);
            Arrays.fill(expected, 0);
            stagedNow = 0;
            underway = 0;
        }

        private void lineUp() {
            for (int door = 0; door < dock.doors; door++) {
                nextUp[door] = plan.truckAt(door, 0);
            }
            for (int truck = 0; truck < dock.trucks; truck++) {
                if (plan.isInRow(truck)) {
                    underway++;
                }
            }
            for (int carton = 0; carton < dock.cartons; carton++) {
                if (plan.isInRow(dock.bringer[carton])) {
                    add(expected, dock.aim[carton], 1);
                }
            }
        }

        private static void add(int[] counts, int destination, int many) {
            if (destination >= 0 && destination < counts.length) {
                counts[destination] += many;
            }
        }

        private static int manyOf(int[] counts, int destination) {
            return destination >= 0 && destination < counts.length ? counts[destination] : 0;
        }

        private void letDock(int minute) {
            for (int door = 0; door < dock.doors; door++) {
                int truck = nextUp[door];
                boolean isFree = standing[door] == NONE && freeFrom[door] <= minute;
                if (isFree && dock.hasTruck(truck) && plan.arrives[truck] <= minute) {
                    standing[door] = truck;
                    docks[truck] = minute;
                    nextUp[door] = plan.truckAt(door, plan.placeOf[truck] + 1);
                }
            }
        }

        private void putOn(int minute) {
            for (int door = 0; door < dock.doors; door++) {
                int truck = standing[door];
                if (dock.doorKind[door] == OUT && dock.hasTruck(truck)) {
                    int carton = firstReady(door, dock.destination[truck], minute);
                    if (dock.hasCarton(carton)) {
                        putOneOn(carton, truck, door, minute);
                    }
                }
            }
        }

        private int firstReady(int door, int destination, int minute) {
            int first = NONE;
            if (manyOf(waiting, destination) == 0) {
                return NONE;
            }
            for (int carton = 0; carton < dock.cartons; carton++) {
                boolean isWaiting = dock.aim[carton] == destination && off[carton] != NONE && on[carton] == NONE;
                if (isWaiting && (first == NONE || off[carton] < off[first])) {
                    int needed = Dock.wayBetween(fromSpot[carton], dock.spot[door]);
                    if (minute - off[carton] >= Math.max(needed, 1)) {
                        first = carton;
                    }
                }
            }
            return first;
        }

        private void putOneOn(int carton, int truck, int door, int minute) {
            on[carton] = minute;
            onto[carton] = truck;
            way[carton] = Dock.wayBetween(fromSpot[carton], dock.spot[door]);
            add(waiting, dock.aim[carton], -1);
            add(expected, dock.aim[carton], -1);
            stagedNow--;
            handled[truck]++;
            if (handled[truck] >= dock.room[truck]) {
                leave(truck, door, minute);
            }
        }

        private void takeOff(int minute) {
            for (int door = 0; door < dock.doors; door++) {
                int truck = standing[door];
                if (dock.doorKind[door] == IN && dock.hasTruck(truck) && stagedNow < space) {
                    int carton = dock.firstCarton[truck] + handled[truck];
                    if (dock.hasCarton(carton)) {
                        takeOneOff(carton, truck, door, minute);
                    }
                }
            }
        }

        private void takeOneOff(int carton, int truck, int door, int minute) {
            off[carton] = minute;
            fromSpot[carton] = dock.spot[door];
            add(waiting, dock.aim[carton], 1);
            stagedNow++;
            handled[truck]++;
            if (handled[truck] >= dock.room[truck]) {
                leave(truck, door, minute);
            }
        }

        private void letGo(int minute) {
            for (int door = 0; door < dock.doors; door++) {
                int truck = standing[door];
                if (dock.doorKind[door] == OUT && dock.hasTruck(truck)
                        && manyOf(expected, dock.destination[truck]) == 0) {
                    leave(truck, door, minute);
                }
            }
        }

        private void leave(int truck, int door, int minute) {
            leaves[truck] = minute;
            standing[door] = NONE;
            freeFrom[door] = minute + dock.change + 1;
            underway--;
        }

        int lateBy(int truck) {
            if (dock.kind[truck] == IN) {
                return 0;
            }
            int end = leaves[truck] == NONE ? MINUTES : leaves[truck];
            return Math.max(0, end - dock.due[truck]);
        }

        int lateness() {
            int sum = 0;
            for (int truck = 0; truck < dock.trucks; truck++) {
                sum += lateBy(truck) * dock.weight[truck];
            }
            return sum;
        }

        int travelled() {
            int sum = 0;
            for (int carton = 0; carton < dock.cartons; carton++) {
                sum += on[carton] == NONE ? 0 : way[carton];
            }
            return sum;
        }

        int minutesStaged() {
            int sum = 0;
            for (int carton = 0; carton < dock.cartons; carton++) {
                sum += on[carton] == NONE ? 0 : on[carton] - off[carton];
            }
            return sum;
        }

        int putOnInAll() {
            int many = 0;
            for (int carton = 0; carton < dock.cartons; carton++) {
                many += on[carton] == NONE ? 0 : 1;
            }
            return many;
        }

        /** Of one destination, or of all if it is NONE. */
        int stagedAtEnd(int minute, int destination) {
            int many = 0;
            for (int carton = 0; carton < dock.cartons; carton++) {
                boolean isAsked = destination == NONE || dock.aim[carton] == destination;
                boolean isOff = off[carton] != NONE && off[carton] <= minute;
                boolean isGone = on[carton] != NONE && on[carton] <= minute;
                if (isAsked && isOff && !isGone) {
                    many++;
                }
            }
            return many;
        }

        int mostStaged() {
            int most = 0;
            for (int minute = 0; minute < MINUTES; minute++) {
                most = Math.max(most, stagedAtEnd(minute, NONE));
            }
            return most;
        }

        int firstFullest() {
            int most = 0;
            int first = NONE;
            for (int minute = 0; minute < MINUTES; minute++) {
                int many = stagedAtEnd(minute, NONE);
                if (many > most) {
                    most = many;
                    first = minute;
                }
            }
            return first;
        }

        int lastLeaving() {
            int last = NONE;
            for (int truck = 0; truck < dock.trucks; truck++) {
                last = Math.max(last, leaves[truck]);
            }
            return last;
        }

        int neverLeaving() {
            int many = 0;
            for (int truck = 0; truck < dock.trucks; truck++) {
                many += leaves[truck] == NONE ? 1 : 0;
            }
            return many;
        }

        private int lastMinuteOf(int truck) {
            return leaves[truck] == NONE ? MINUTES - 1 : leaves[truck];
        }

        private int minutesOf(int truck) {
            return docks[truck] == NONE ? 0 : lastMinuteOf(truck) - docks[truck] + 1;
        }

        /** A truck takes one off a minute at most, so whatever minutes it has beyond its cartons were idle. */
        int idleMinutes() {
            int sum = 0;
            for (int truck = 0; truck < dock.trucks; truck++) {
                sum += dock.kind[truck] == IN ? minutesOf(truck) - handled[truck] : 0;
            }
            return sum;
        }

        int minutesTakenAt(int door) {
            int sum = 0;
            for (int truck = 0; truck < dock.trucks; truck++) {
                sum += plan.doorOf[truck] == door ? minutesOf(truck) : 0;
            }
            return sum;
        }

        int handledAt(int door) {
            int sum = 0;
            for (int truck = 0; truck < dock.trucks; truck++) {
                sum += plan.doorOf[truck] == door ? handled[truck] : 0;
            }
            return sum;
        }

        int standingAt(int door, int minute) {
            for (int truck = 0; truck < dock.trucks; truck++) {
                boolean hasCome = docks[truck] != NONE && docks[truck] <= minute;
                if (plan.doorOf[truck] == door && hasCome && minute <= lastMinuteOf(truck)) {
                    return truck;
                }
            }
            return NONE;
        }
    }

    /** The plans ahead of the latest acts, the oldest first. */
    private static final class Acts {
        final Plan[] before = new Plan[MOST_ACTS];
        int many;

        Acts() {
            for (int i = 0; i < MOST_ACTS; i++) {
                before[i] = new Plan();
            }
        }

        void keep(Plan plan) {
            if (many >= MOST_ACTS) {
                dropOldest();
            }
            before[many].copyFrom(plan);
            many++;
        }

        private void dropOldest() {
            Plan oldest = before[0];
            for (int i = 1; i < MOST_ACTS; i++) {
                before[i - 1] = before[i];
            }
            before[MOST_ACTS - 1] = oldest;
            many = MOST_ACTS - 1;
        }

        boolean giveBack(Plan plan) {
            if (many <= 0) {
                return false;
            }
            many--;
            plan.copyFrom(before[many]);
            return true;
        }
    }

    /** All that is kept under one number. */
    private static final class Image {
        final Text text = new Text();
        final Dock dock = new Dock();
        final Plan plan = new Plan();
        boolean isKept;
        int fault;
        int faultPlace;
    }
}
