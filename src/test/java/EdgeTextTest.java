/** The edges of promises 1 to 4 and of Term 1: every NUMBER, every byte, every place of a FAULT, how much there can be. */
public final class EdgeTextTest {
    private static final Checks checks = new Checks();
    private static final int NONE = DockTurns.NONE;
    private static final String SIX_DOORS = "door in 1;door out 1;door in 1;door out 1;door in 1;door out 1;";
    private static final String EIGHT_TRUCKS = "in 1 1 0 0 0;out 0 0 0 1 1;in 1 1 0 0 0;out 0 0 0 1 1;"
        + "in 1 1 0 0 0;out 0 0 0 1 1;in 1 1 0 0 0;out 0 0 0 1 1;";

    private interface Asked {
        int answer(DockTurns x);
    }

    public static void main(String[] args) {
        numbersOfDoors();
        numbersOfInTrucks();
        numbersOfOutTrucks();
        numbersOfTheRest();
        digits();
        everyByteBetweenWords();
        everyByteBetweenDigits();
        everyByteForTheSign();
        everyByteAlone();
        wordsAreAsLongAsTheyGo();
        tokensThatCanNotStandThere();
        theEndIfMoreMustCome();
        endsOfTexts();
        anyNumberOfStatements();
        theLastOneStrikes();
        theSeventhDoor();
        theNinthTruck();
        notAllLoadsAreZero();
        fortyCartons();
        theFirstByPlace();
        ofOnePlaceTheLeast();
        bytesUpToAZero();
        fourHundredBytes();
        theFullestText();
        readingAgain();
        faultOfTheLatestRead();
        firstPlanOfLikeOnes();
        firstPlanWithoutADoor();
        checks.end();
    }

    /** Every number of one to three digits: those from low to high are told back, all others are FAULT 2 there. */
    private static void dueOnly(int low, int high, String ahead, String behind, Asked asked) {
        for (int value = 0; value <= 999; value++) {
            String text = ahead + value + behind;
            if (value < low || value > high) {
                checks.dueFault(text, 2, ahead.length());
            } else {
                checks.due(text, asked.answer(Checks.told(text)), value);
            }
        }
    }

    /** SPOT, 0 to 99. */
    private static void numbersOfDoors() {
        dueOnly(0, 99, "door in ", ";", x -> x.door(0, 1));
        dueOnly(0, 99, "door out ", ";", x -> x.door(0, 1));
    }

    /** ARRIVES, 0 to 99; a LOAD of 0 to 15 for each of the DESTINATIONS 0 to 3. */
    private static void numbersOfInTrucks() {
        dueOnly(0, 99, "in ", " 1 0 0 0;", x -> x.truck(0, 1));
        dueOnly(0, 15, "in 0 ", " 1 0 0;", x -> x.truck(0, 20));
        dueOnly(0, 15, "in 0 1 ", " 0 0;", x -> x.truck(0, 21));
        dueOnly(0, 15, "in 0 0 1 ", " 0;", x -> x.truck(0, 22));
        dueOnly(0, 15, "in 0 0 0 1 ", ";", x -> x.truck(0, 23));
    }

    /** ARRIVES, 0 to 99; DESTINATION; DUE, 0 to 199; ROOM, 1 to 40; WEIGHT, 1 to 9. */
    private static void numbersOfOutTrucks() {
        dueOnly(0, 99, "out ", " 0 0 1 1;", x -> x.truck(0, 1));
        dueOnly(0, 3, "out 0 ", " 0 1 1;", x -> x.truck(0, 2));
        dueOnly(0, 199, "out 0 0 ", " 1 1;", x -> x.truck(0, 3));
        dueOnly(1, 40, "out 0 0 0 ", " 1;", x -> x.truck(0, 4));
        dueOnly(1, 9, "out 0 0 0 1 ", ";", x -> x.truck(0, 5));
    }

    /** STAGING, 0 to 40 (10 at first). CHANGE, 0 to 9 (2). */
    private static void numbersOfTheRest() {
        dueOnly(0, 40, "staging ", ";", x -> x.count(3));
        dueOnly(0, 9, "change ", ";", x -> x.count(4));
        checks.due("STAGING at first", new DockTurns().count(3), 10);
        checks.due("CHANGE at first", new DockTurns().count(4), 2);
        checks.due("STAGING, not told", Checks.told("change 5;").count(3), 10);
        checks.due("CHANGE, not told", Checks.told("staging 5;").count(4), 2);
    }

    /** NUMBERS, 1 to 3 digits; a longer row of digits is none. */
    private static void digits() {
        checks.due("one digit", Checks.told("change 7;").count(4), 7);
        checks.due("two digits", Checks.told("change 07;").count(4), 7);
        checks.due("three digits", Checks.told("change 007;").count(4), 7);
        checks.due("three digits", Checks.told("out 0 0 199 1 1;").truck(0, 3), 199);
        for (String row : new String[] {"0007", "0000", "1000", "9999", "00007", "4294967296", "18446744073709551623"}) {
            checks.dueFault("change " + row + ";", 1, 7);
            checks.dueFault("in 0 1 " + row + " 0 0;", 1, 7);
        }
        checks.dueFault("change " + "0".repeat(393), 1, 7);
        checks.dueFault("change 07 7;", 1, 10);
    }

    private static String sign(int value) {
        return String.valueOf((char) value);
    }

    private static boolean isBlank(int sign) {
        return sign == 32 || sign == 10;
    }

    private static boolean isLetter(int sign) {
        return sign >= 97 && sign <= 122;
    }

    private static boolean isDigit(int sign) {
        return sign >= 48 && sign <= 57;
    }

    /** Blanks are 32 and 10, letters a to z; any other byte ends the word and can not stand there. */
    private static void everyByteBetweenWords() {
        for (int sign = 1; sign <= 255; sign++) {
            String text = "door" + sign(sign) + "in 5;";
            if (isBlank(sign)) {
                checks.dueRead(text, 0);
            } else {
                checks.dueFault(text, 1, isLetter(sign) ? 0 : 4);
            }
        }
    }

    private static void everyByteBetweenDigits() {
        for (int sign = 1; sign <= 255; sign++) {
            String text = "door in 1" + sign(sign) + "2;";
            if (isDigit(sign)) {
                checks.dueFault(text, 2, 8);
            } else {
                checks.dueFault(text, 1, isBlank(sign) || sign == 59 ? 10 : 9);
            }
        }
    }

    private static void everyByteForTheSign() {
        for (int sign = 1; sign <= 255; sign++) {
            String text = "change 1" + sign(sign) + "change 2;";
            if (sign == 59) {
                checks.due("with its sign", Checks.told(text).count(4), 2);
            } else {
                checks.dueFault(text, 1, isBlank(sign) || isDigit(sign) ? 9 : 8);
            }
        }
    }

    private static void everyByteAlone() {
        for (int sign = 1; sign <= 255; sign++) {
            if (isBlank(sign)) {
                checks.dueRead(sign(sign), 0);
            } else {
                checks.dueFault(sign(sign), 1, 0);
                checks.dueFault(" " + sign(sign) + " ", 1, 1);
            }
        }
    }

    private static void wordsAreAsLongAsTheyGo() {
        String[] words = {"door", "in", "out", "staging", "change"};
        String[] behind = {" in 5;", " 0 1 0 0 0;", " 0 0 0 1 1;", " 5;", " 5;"};
        for (int i = 0; i < words.length; i++) {
            int trucks = i == 1 || i == 2 ? 1 : 0;
            checks.dueRead(words[i] + behind[i], trucks);
            checks.dueFault(words[i] + "s" + behind[i], 1, 0);
            checks.dueFault("a" + words[i] + behind[i], 1, 0);
            checks.dueFault(words[i].substring(1) + behind[i], 1, 0);
            checks.dueFault(words[i].substring(0, words[i].length() - 1) + behind[i], 1, 0);
            checks.dueFault(words[i].toUpperCase() + behind[i], 1, 0);
            checks.dueFault(words[i] + words[i] + behind[i], 1, 0);
        }
        everyLetterCounts(words, behind);
        checks.dueFault("door ins 5;", 1, 5);
        checks.dueFault("door outs 5;", 1, 5);
        checks.dueFault("door i 5;", 1, 5);
        checks.dueFault("door ou 5;", 1, 5);
        checks.dueRead("door in5;in0 1 0 0 0;out0 0 0 1 1;staging5;change5;", 2);
    }

    private static void everyLetterCounts(String[] words, String[] behind) {
        for (int i = 0; i < words.length; i++) {
            for (int at = 0; at < words[i].length(); at++) {
                char other = words[i].charAt(at) == 'z' ? 'a' : (char) (words[i].charAt(at) + 1);
                String word = words[i].substring(0, at) + other + words[i].substring(at + 1);
                checks.dueFault(word + behind[i], 1, 0);
                checks.dueFault("door " + word + " 5;", 1, 5);
            }
        }
    }

    private static final String[] EACH = {
        "door", "in", "5", ";", "door", "out", "5", ";", "in", "5", "1", "2", "3", "4", ";",
        "out", "5", "1", "2", "3", "4", ";", "staging", "5", ";", "change", "5", ";"};

    /** The first tokens of EACH, with a blank behind each. */
    private static String first(int many) {
        StringBuilder text = new StringBuilder();
        for (int i = 0; i < many; i++) {
            text.append(EACH[i]).append(' ');
        }
        return text.toString();
    }

    /** FAULT 1: the first token that can not stand there (another word, too), or a byte that begins none. */
    private static void tokensThatCanNotStandThere() {
        String[] others = {"dock", "doors", ";", "5", "?", "1234", "in", "door", "staging"};
        String all = first(EACH.length);
        for (int i = 0; i < EACH.length; i++) {
            String head = first(i);
            for (String other : others) {
                if (!canStand(other, i)) {
                    checks.dueFault(head + other + all.substring(head.length() + EACH[i].length()), 1, head.length());
                }
            }
        }
    }

    private static boolean canStand(String other, int i) {
        boolean isWord = other.equals("in") || other.equals("door") || other.equals("staging");
        if (i == 0 || EACH[i - 1].equals(";")) {
            return isWord;
        }
        if (EACH[i - 1].equals("door")) {
            return other.equals("in");
        }
        return EACH[i].equals(";") ? other.equals(";") : other.equals("5");
    }

    /** FAULT 1: the end, if more must come; its place is how many bytes there are. */
    private static void theEndIfMoreMustCome() {
        for (int many = 1; many <= EACH.length; many++) {
            String text = first(many).trim();
            if (EACH[many - 1].equals(";")) {
                checks.dueRead(text, many >= 22 ? 2 : many >= 15 ? 1 : 0);
                checks.dueRead(text + " \n", many >= 22 ? 2 : many >= 15 ? 1 : 0);
            } else {
                checks.dueFault(text, 1, text.length());
                checks.dueFault(text + " \n ", 1, text.length() + 3);
            }
        }
    }

    private static void endsOfTexts() {
        checks.dueFault("door in 5;door in 5", 1, 19);
        checks.dueFault(" ".repeat(396) + "door", 1, 400);
        checks.dueFault("door" + " ".repeat(396), 1, 400);
        checks.dueFault(" ".repeat(399) + ";", 1, 399);
        checks.dueFault("change 5" + " ".repeat(392), 1, 400);
        checks.dueRead("change 5" + " ".repeat(391) + ";", 0);
    }

    private static void anyNumberOfStatements() {
        checks.dueRead("", 0);
        checks.dueRead(" ", 0);
        checks.dueRead("\n", 0);
        checks.dueRead(" ".repeat(400), 0);
        checks.dueRead("change0;".repeat(50), 0);
        checks.due("nothing told", Checks.told("").count(0), 0);
    }

    private static void theLastOneStrikes() {
        DockTurns x = Checks.told("staging 1;change 1;staging 2;change 3;change 2;staging 4;");
        checks.due("the last STAGING", x.count(3), 4);
        checks.due("the last CHANGE", x.count(4), 2);
        checks.dueFault("staging 41;staging 4;", 2, 8);
        checks.dueFault("staging 4;staging 41;", 2, 18);
    }

    /** DOORS, at most 6; FAULT 3: the word door of a 7th. */
    private static void theSeventhDoor() {
        checks.dueRead(SIX_DOORS, 0);
        checks.due("six", Checks.told(SIX_DOORS).count(0), 6);
        checks.due("the sixth", Checks.told(SIX_DOORS).door(5, 1), 1);
        int end = SIX_DOORS.length();
        checks.dueFault(SIX_DOORS + "door in 1;", 3, end);
        checks.dueFault(SIX_DOORS + "\ndoor out 1;", 3, end + 1);
        checks.dueFault(SIX_DOORS + "in 0 1 0 0 0;door out 1;", 3, end + 13);
        checks.dueFault(SIX_DOORS + "door in 1;door in 1;door in 100;", 3, end);
        checks.dueFault(SIX_DOORS + "door in 1", 1, end + 9);
        for (String kind : new String[] {"door in 3;", "door out 3;"}) {
            checks.dueRead(kind.repeat(6), 0);
            checks.dueFault(kind.repeat(7), 3, 6 * kind.length());
        }
    }

    /** TRUCKS, at most 8; FAULT 3: the word in or out of a 9th TRUCK. */
    private static void theNinthTruck() {
        checks.dueRead(EIGHT_TRUCKS, 8);
        int end = EIGHT_TRUCKS.length();
        checks.dueFault(EIGHT_TRUCKS + "in 1 1 0 0 0;", 3, end);
        checks.dueFault(EIGHT_TRUCKS + " out 0 0 0 1 1;", 3, end + 1);
        checks.dueFault(EIGHT_TRUCKS + "door in 1;out 0 0 0 1 1;", 3, end + 10);
        checks.dueFault(EIGHT_TRUCKS + "out 0 0 0 1 1;out 0 0 0 1 1;", 3, end);
        for (String kind : new String[] {"in 3 1 0 0 0;", "out 3 1 0 1 1;"}) {
            checks.dueRead(kind.repeat(8), 8);
            checks.dueFault(kind.repeat(9), 3, 8 * kind.length());
        }
        checks.dueRead(SIX_DOORS + EIGHT_TRUCKS + "change 1;staging 1;", 8);
    }

    /** FAULT 4: the word in of a TRUCK of which all LOADS are 0. */
    private static void notAllLoadsAreZero() {
        checks.dueFault("in 0 0 0 0 0;", 4, 0);
        checks.dueFault("change 1; in 0 00 000 0 0;", 4, 10);
        checks.dueRead("in 0 1 0 0 0;", 1);
        checks.dueRead("in 0 0 1 0 0;", 1);
        checks.dueRead("in 0 0 0 1 0;", 1);
        checks.dueRead("in 0 0 0 0 1;", 1);
        checks.dueFault("in 0 0 0 0 1;in 0 0 0 0 0;", 4, 13);
        checks.dueFault("in 0 16 0 0 0;", 2, 5);
        checks.dueRead("out 0 0 0 1 1;", 1);
    }

    /** All CARTONS of all TRUCKS are 40 at most; FAULT 4: the word in of a TRUCK with which there would be more. */
    private static void fortyCartons() {
        checks.due("40 of one", Checks.told("in 0 10 10 10 10;").count(2), 40);
        checks.dueFault("in 0 10 10 10 11;", 4, 0);
        checks.dueFault("in 0 15 15 15 15;", 4, 0);
        checks.due("40 of two", Checks.told("in 0 15 15 0 0;in 0 0 0 9 1;").count(2), 40);
        checks.dueFault("in 0 15 15 0 0;in 0 0 0 9 2;", 4, 15);
        checks.due("40 of eight", Checks.told("in 0 1 2 1 1;".repeat(8)).count(2), 40);
        checks.dueFault("in 0 1 2 1 1;".repeat(7) + "in 0 1 2 1 2;", 4, 91);
        checks.dueFault("in 0 10 10 10 10;out 0 0 0 40 9;in 0 0 0 1 0;", 4, 32);
        // LOADS that can not be are not among the 40, so there are 40, or 41, without them.
        checks.dueFault("in 0 15 15 10 16;", 2, 14);
        checks.dueFault("in 0 15 15 11 16;", 4, 0);
        checks.dueFault("in 0 999 15 15 10;", 2, 5);
        checks.dueFault("in 0 999 15 15 11;", 4, 0);
        DockTurns x = Checks.told("in 0 10 10 10 10;");
        checks.due("the last one's DESTINATION", x.carton(39, 1), 3);
        checks.due("the first one's", x.carton(0, 1), 0);
        checks.dueNoSuchElement("a 41st", () -> x.carton(40, 1));
    }

    private static final String[] FAULTY = {
        "door in 100;", "in 0 0 0 0 0;", "in 0 16 0 0 0;", "in 0 15 15 11 0;", "out 0 4 5 5 5;", "out 0 0 5 0 5;",
        "staging 41;", "change 10;", "in 100 0 0 0 0;", "out 100 4 200 0 0;",
        "door up 5;", "dock 1;", "door in 1000;", "in 0 1 1 1;", ";", "door in 5,"};
    private static final int[] FAULT = {2, 4, 2, 4, 2, 2, 2, 2, 4, 2, 1, 1, 1, 1, 1, 1};
    private static final int[] WHERE = {8, 0, 5, 0, 6, 10, 8, 7, 0, 4, 5, 0, 8, 10, 0, 9};

    /** FAULT 1 wherever it is; if there is none, the first by place. */
    private static void theFirstByPlace() {
        String between = "in 3 1 0 0 0; out 1 0 0 1 1;\n";
        for (int i = 0; i < FAULTY.length; i++) {
            checks.dueFault(FAULTY[i], FAULT[i], WHERE[i]);
            checks.dueFault(between + FAULTY[i] + between, FAULT[i], between.length() + WHERE[i]);
            for (int j = 0; j < FAULTY.length; j++) {
                boolean isLater = FAULT[i] != 1 && FAULT[j] == 1;
                int ahead = FAULTY[i].length() + between.length();
                checks.dueFault(FAULTY[i] + between + FAULTY[j], isLater ? 1 : FAULT[i], isLater ? ahead + WHERE[j] : WHERE[i]);
            }
        }
    }

    private static void ofOnePlaceTheLeast() {
        int trucks = EIGHT_TRUCKS.length();
        checks.dueFault(EIGHT_TRUCKS + "in 0 0 0 0 0;", 3, trucks);
        checks.dueFault(EIGHT_TRUCKS + "in 0 15 15 15 15;", 3, trucks);
        checks.dueFault(EIGHT_TRUCKS + "in 100 16 0 0 0;", 3, trucks);
        checks.dueFault(EIGHT_TRUCKS + "out 100 4 200 0 0;", 3, trucks);
        checks.dueFault(SIX_DOORS + "door in 100;", 3, SIX_DOORS.length());
        checks.dueFault("in 0 0 0 0 0;" + EIGHT_TRUCKS, 4, 0);
        checks.dueFault("in 100 0 0 0 0;", 4, 0);
    }

    /** The bytes of eight, the highest first, up to the first one that is 0. */
    private static void bytesUpToAZero() {
        String text = "change 5";
        for (int zero = 0; zero < 8; zero++) {
            DockTurns x = new DockTurns();
            long eight = Checks.eight(text) & ~(255L << 8 * (7 - zero));
            checks.due("a 0 at " + zero, x.type(eight), zero);
            checks.due("so many bytes", x.count(17), zero);
            Checks.typeAll(x, text.substring(zero) + ";");
            checks.due("those alone came", x.read(), 0);
            checks.due("and are read", x.count(4), 5);
        }
        DockTurns y = new DockTurns();
        checks.due("all eight", y.type(Checks.eight(text)), 8);
        checks.due("none", y.type(0L), 8);
        checks.due("the least number is one byte", y.type(Long.MIN_VALUE), 9);
        checks.due("the greatest one is eight", y.type(Long.MAX_VALUE), 17);
        checks.due("-1 is eight", y.type(-1L), 25);
        checks.due("1 is none, seven being 0 ahead of it", y.type(1L), 25);
    }

    /** THE TEXT has at most 400 bytes: NONE, and nothing comes, if it would have more. */
    private static void fourHundredBytes() {
        for (int there = 391; there <= 400; there++) {
            for (int more = 0; more <= 8; more++) {
                DockTurns x = new DockTurns();
                Checks.typeAll(x, " ".repeat(there));
                boolean fits = there + more <= 400;
                checks.due(more + " behind " + there, x.type(Checks.eight(";".repeat(more))), fits ? there + more : NONE);
                checks.due("bytes then", x.count(17), fits ? there + more : there);
                checks.due("a FAULT, if any came", x.read(), fits && more > 0 ? NONE : 0);
                checks.due("its place", x.fault(true), fits && more > 0 ? there : NONE);
                checks.due("there is room again", x.type(Checks.eight("12345678")), 8);
            }
        }
    }

    private static void theFullestText() {
        String text = "door in 099;door out 099;door in 099;door out 099;door in 099;door out 099;"
            + "in 099 15 15 10 0;out 099 003 199 040 009;out 099 003 199 040 009;out 099 003 199 040 009;"
            + "out 099 003 199 040 009;out 099 003 199 040 009;out 099 003 199 040 009;out 099 003 199 040 009;"
            + "staging 040;change 009;";
        String full = text + " ".repeat(399 - text.length());
        DockTurns x = new DockTurns();
        Checks.typeAll(x, full + "\n");
        checks.due("400 bytes", x.count(17), 400);
        checks.due("read", x.read(), 8);
        checks.due("DOORS", x.count(0), 6);
        checks.due("CARTONS", x.count(2), 40);
        checks.due("STAGING", x.count(3), 40);
        checks.due("CHANGE", x.count(4), 9);
        Checks.typeAll(x, full + "?");
        checks.due("the 400th byte is read", x.read(), NONE);
        checks.due("it begins none", x.fault(true), 399);
    }

    /** All is as at first, but as told. */
    private static void readingAgain() {
        DockTurns x = Checks.told(SIX_DOORS + EIGHT_TRUCKS + "staging 3;change 4;");
        x.late(0, 5);
        x.now(7);
        checks.due("an empty TEXT", x.read(), 0);
        int[] atFirst = {0, 0, 0, 10, 2, 0, 0, 0, 0, 0, 0, 0, NONE, NONE, 0, 0, 0, 0, 0};
        for (int what = 0; what < atFirst.length; what++) {
            checks.due("as at first: count(" + what + ")", x.count(what), atFirst[what]);
        }
        checks.due("no ROWS", x.row(0, 0), NONE);
        Checks.typeAll(x, SIX_DOORS + EIGHT_TRUCKS);
        checks.due("told anew", x.read(), 8);
        checks.due("ARRIVES as told", x.truck(0, 1), 1);
        checks.due("STAGING as at first", x.count(3), 10);
        checks.due("CHANGE as at first", x.count(4), 2);
        checks.due("NOW as at first", x.count(5), 0);
        String[] texts = {"door in 3;in 2 0 1 0 0;out 0 0 0 1 1;", "door out 3;out 2 0 1 1 1;in 0 1 0 0 0;", "in 0 0 0 0 2;", ""};
        for (String text : texts) {
            Whole.dueAlike(checks, "as a new object that was told", readTwice("in 1 2 0 0 0;out 7 0 9 9 9;", text), Checks.told(text));
            Whole.dueAlike(checks, "as a new object that was told", readTwice("out 7 0 9 9 9;in 1 2 0 0 0;", text), Checks.told(text));
        }
    }

    private static DockTurns readTwice(String trucks, String text) {
        DockTurns x = Checks.told(SIX_DOORS + trucks + "staging 3;change 4;");
        x.late(1, 5);
        x.now(9);
        Checks.typeAll(x, "oops");
        x.read();
        Checks.typeAll(x, text);
        x.read();
        return x;
    }

    /** Of the latest read(): its FAULT (0 without, and at first), its place (NONE without). */
    private static void faultOfTheLatestRead() {
        DockTurns x = new DockTurns();
        checks.due("at first", x.fault(false), 0);
        checks.due("at first", x.fault(true), NONE);
        Checks.typeAll(x, ";");
        checks.due("not ahead of read()", x.fault(false), 0);
        x.read();
        checks.due("FAULT 1", x.fault(false), 1);
        checks.due("at 0", x.fault(true), 0);
        Checks.typeAll(x, "door in 5;");
        checks.due("still, ahead of read()", x.fault(false), 1);
        x.read();
        checks.due("without", x.fault(false), 0);
        checks.due("without", x.fault(true), NONE);
        Checks.typeAll(x, "change 10;");
        x.read();
        x.now(3);
        x.undo();
        checks.due("acts leave it", x.fault(false), 2);
        checks.due("acts leave it", x.fault(true), 7);
    }

    /** By ARRIVES, of like ones by number; a DOOR that has fewest, of several the least number. */
    private static void firstPlanOfLikeOnes() {
        DockTurns x = Checks.told("door in 9;door out 9;door in 9;door in 9;" + "in 99 1 0 0 0;in 0 1 0 0 0;in 99 1 0 0 0;"
            + "in 0 1 0 0 0;in 98 1 0 0 0;in 1 1 0 0 0;in 0 1 0 0 0;in 99 1 0 0 0;");
        // By ARRIVES: 1, 3, 6 (0), 5 (1), 4 (98), 0, 2, 7 (99).
        checks.dueRow("first plan", x, 0, 1, 5, 2);
        checks.dueRow("first plan", x, 1);
        checks.dueRow("first plan", x, 2, 3, 4, 7);
        checks.dueRow("first plan", x, 3, 6, 0);
        DockTurns y = Checks.told("door out 9;" + "out 5 1 0 1 1;".repeat(8));
        checks.dueRow("all like", y, 0, 0, 1, 2, 3, 4, 5, 6, 7);
    }

    private static void firstPlanWithoutADoor() {
        DockTurns x = Checks.told("door in 0;in 0 1 0 0 0;out 0 0 0 1 1;in 0 1 0 0 0;out 0 0 0 1 1;");
        checks.dueRow("its kind alone", x, 0, 0, 2);
        for (int truck = 1; truck <= 3; truck += 2) {
            checks.due("in none", x.truck(truck, 6), NONE);
            checks.due("in none", x.truck(truck, 7), NONE);
        }
        DockTurns y = Checks.told("in 0 1 0 0 0;");
        checks.due("no DOORS at all", y.truck(0, 6), NONE);
    }
}
