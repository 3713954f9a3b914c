import java.util.NoSuchElementException;

/** The edges of THE RUN (Term 2) and of the promises 12 to 19, which tell of it. */
public final class EdgeRunTest {
    private static final Checks checks = new Checks();
    private static final int NONE = DockTurns.NONE;
    private static final int[] FAR = {-2, NONE, Integer.MIN_VALUE, Integer.MAX_VALUE};
    /** Forty CARTONS for 0, which come three a minute at most. */
    private static final String FORTY = "door in 0;door in 0;door in 0;in 0 15 0 0 0;in 0 15 0 0 0;in 0 10 0 0 0;";

    public static void main(String[] args) {
        docksWhenItArrives();
        docksWhenTheDoorIsFree();
        arrivesAheadOfAndBehindFree();
        waitsForTheOneAheadOfIt();
        carriedLongEnough();
        ofSeveralTheFirst();
        leavesWithItsRoom();
        oneAMinute();
        stagingIsFull();
        theLastPlaceOfStaging();
        theFirstDoorPutsOnFirst();
        inLeavesWithItsLast();
        outLeavesWhenNoneIsLeft();
        outOfNoRowIsNotWaitedFor();
        minute199();
        docksIn199();
        putOnIn199();
        lateByTheDue();
        lateOfOneThatDoesNotLeave();
        weights();
        aHundredForEachLeft();
        countsOfThosePutOn();
        countsOfNothing();
        whatOfCounts();
        mostStagedIsTheFirstTime();
        lastLeaving();
        whichDoNotLeave();
        takesNothingOff();
        whatOfDoors();
        minutesAtADoor();
        rows();
        whatOfTrucks();
        whatOfCartons();
        stagedMinutes();
        atMinutes();
        travels();
        checks.end();
    }

    /** A TRUCK DOCKS, if it ARRIVES then or ahead of it; a DOOR is FREE from the first minute on. */
    private static void docksWhenItArrives() {
        for (int minute : new int[] {0, 1, 50, 98, 99}) {
            DockTurns x = Checks.told("door in 0;in " + minute + " 2 0 0 0;");
            checks.due("docks", x.truck(0, 8), minute);
            checks.due("not ahead of it", x.at(0, minute - 1), NONE);
            checks.due("then", x.at(0, minute), 0);
            DockTurns y = Checks.told("door out 0;out " + minute + " 0 0 1 1;");
            checks.due("docks", y.truck(0, 8), minute);
        }
    }

    /** A DOOR that one LEAVES in a minute is FREE again CHANGE and 1 minutes later. */
    private static void docksWhenTheDoorIsFree() {
        for (int change = 0; change <= 9; change++) {
            DockTurns x = Checks.told("door in 0;door out 0;in 0 2 0 0 0;in 0 1 0 0 0;out 0 1 0 1 1;out 0 1 0 1 1;change "
                + change + ";");
            checks.due("leaves", x.truck(0, 9), 1);
            checks.due("an IN DOOR is FREE", x.truck(1, 8), 1 + change + 1);
            checks.due("not ahead of that", x.at(0, 1 + change), change == 0 ? 0 : NONE);
            checks.due("leaves", x.truck(2, 9), 0);
            checks.due("an OUT DOOR is FREE", x.truck(3, 8), change + 1);
        }
    }

    private static void arrivesAheadOfAndBehindFree() {
        // FREE again in minute 6, by CHANGE 5.
        int[] arrives = {0, 5, 6, 7, 99};
        int[] docks = {6, 6, 6, 7, 99};
        for (int i = 0; i < arrives.length; i++) {
            DockTurns x = Checks.told("door out 0;change 5;out 0 0 0 1 1;out " + arrives[i] + " 0 0 1 1;");
            checks.due("the second one docks", x.truck(1, 8), docks[i]);
        }
    }

    private static void waitsForTheOneAheadOfIt() {
        DockTurns x = Checks.told("door in 0;change 0;in 7 1 0 0 0;in 2 1 0 0 0;");
        checks.dueRow("by ARRIVES", x, 0, 1, 0);
        x.swap(0, 1);
        checks.due("none ahead of the first", x.at(0, 6), NONE);
        checks.due("the first of the ROW", x.truck(0, 8), 7);
        checks.due("the next one, long there", x.truck(1, 8), 8);
        DockTurns y = Checks.told("door in 0;staging 0;in 0 1 0 0 0;in 0 1 0 0 0;");
        checks.due("where one stands none docks", y.truck(1, 8), NONE);
    }

    /** So long ago, at least, as TRAVEL from that DOOR is, and 1 at least. */
    private static void carriedLongEnough() {
        for (int apart = 0; apart <= 99; apart++) {
            int way = apart / 10 + (apart % 10 > 0 ? 1 : 0);
            int on = way < 1 ? 1 : way;
            DockTurns x = Checks.told("door in 0;door out " + apart + ";in 0 1 0 0 0;out 0 0 199 9 1;");
            DockTurns y = Checks.told("door out 0;door in " + apart + ";in 0 1 0 0 0;out 0 0 199 9 1;");
            checks.due("on, " + apart + " apart", x.carton(0, 3), on);
            checks.due("on, the other way", y.carton(0, 3), on);
            checks.due("TRAVEL of it", x.carton(0, 5), way);
            checks.due("COST", x.count(6), way + on);
            checks.due("COST, the other way", y.count(6), way + on);
        }
    }

    /** The one that was taken off first (of several the least number). */
    private static void ofSeveralTheFirst() {
        // Off: cartons 0 and 2 in minute 0, 1 and 3 in minute 1; the OUT one is there from 8 on.
        DockTurns x = Checks.told("door in 0;door in 0;door out 0;in 0 2 0 0 0;in 0 2 0 0 0;out 8 0 99 9 1;");
        int[] on = {8, 10, 9, 11};
        for (int carton = 0; carton < 4; carton++) {
            checks.due("on: " + carton, x.carton(carton, 3), on[carton]);
        }
        x.swap(0, 1);
        for (int carton = 0; carton < 4; carton++) {
            checks.due("whichever DOOR: " + carton, x.carton(carton, 3), on[carton]);
        }
        // Carton 0 comes off first but from afar (10 minutes): carton 1 is ready ahead of it, then both are.
        DockTurns y = Checks.told("door in 99;door in 0;door out 0;in 0 1 0 0 0;in 8 2 0 0 0;out 0 0 99 9 1;");
        checks.due("ready first", y.carton(1, 3), 9);
        checks.due("of those that are ready, the one that was off first", y.carton(0, 3), 10);
        checks.due("then the other", y.carton(2, 3), 11);
    }

    /** If it has as many as its ROOM then, it LEAVES: ROOM 1 to 40. */
    private static void leavesWithItsRoom() {
        for (int room = 1; room <= 40; room++) {
            DockTurns x = Checks.told(FORTY + "door out 0;staging 40;out 0 0 199 " + room + " 1;");
            checks.due("leaves with " + room, x.truck(3, 9), room);
            checks.due("has as many", x.truck(3, 10), room);
            checks.due("all that are put on", x.count(7), room);
        }
        DockTurns y = Checks.told("door in 0;door out 0;in 0 2 0 0 0;out 0 0 199 3 1;");
        checks.due("one fewer than its ROOM, but none is left", y.truck(1, 9), 2);
        DockTurns z = Checks.told("door in 0;door in 0;door out 0;in 0 2 0 0 0;in 9 1 0 0 0;out 0 0 199 3 1;");
        checks.due("waits with one fewer", z.truck(2, 9), 10);
    }

    private static void oneAMinute() {
        DockTurns x = Checks.told(FORTY + "door out 0;staging 40;out 99 0 199 40 1;");
        checks.due("all are there", x.staged(98, NONE), 40);
        for (int minute = 99; minute <= 138; minute++) {
            checks.due("one is put on a minute", x.staged(minute, 0), 138 - minute);
        }
        checks.due("leaves with all", x.truck(3, 9), 138);
    }

    /** The next one is taken OFF, if fewer than STAGING are STAGED: 0 to 40. */
    private static void stagingIsFull() {
        for (int staging = 0; staging <= 40; staging++) {
            DockTurns x = Checks.told(FORTY + "staging " + staging + ";");
            checks.due("as many as STAGING", x.staged(199, NONE), staging);
            checks.due("never more", x.count(11), staging);
            // Three a minute up to minute 9, then two.
            int full = staging <= 30 ? (staging + 2) / 3 - 1 : 10 + (staging - 30 + 1) / 2 - 1;
            checks.due("when it is full", x.count(12), staging == 0 ? NONE : full);
            checks.due("COST", x.count(6), 4000);
        }
    }

    private static void theLastPlaceOfStaging() {
        DockTurns x = Checks.told(FORTY + "staging 1;");
        checks.due("the first DOOR has it", x.carton(0, 2), 0);
        checks.due("not the second one", x.carton(15, 2), NONE);
        DockTurns y = Checks.told(FORTY + "staging 2;");
        checks.due("the second DOOR has it", y.carton(15, 2), 0);
        checks.due("not the third one", y.carton(30, 2), NONE);
        checks.due("nor the first one again", y.carton(1, 2), NONE);
        DockTurns z = Checks.told("door in 0;door out 0;staging 1;in 0 2 0 0 0;out 5 0 99 9 1;");
        checks.due("put on in minute 5", z.carton(0, 3), 5);
        checks.due("there is room in that minute", z.carton(1, 2), 5);
    }

    private static void theFirstDoorPutsOnFirst() {
        DockTurns x = Checks.told("door out 0;door in 0;door out 0;in 0 1 0 0 0;out 0 0 99 9 1;out 0 0 99 9 1;");
        checks.due("by number", x.carton(0, 4), 1);
        x.swap(1, 2);
        checks.due("by number of the DOOR", x.carton(0, 4), 2);
        checks.due("the other one has none", x.truck(1, 10), 0);
        checks.due("but leaves then, too", x.truck(1, 9), 1);
    }

    /** If none is left, it LEAVES. */
    private static void inLeavesWithItsLast() {
        for (int load = 1; load <= 15; load++) {
            DockTurns x = Checks.told("door in 0;staging 15;in 3 0 0 " + load + " 0;");
            checks.due("leaves", x.truck(0, 9), 3 + load - 1);
            checks.due("has taken off", x.truck(0, 10), load);
            DockTurns y = Checks.told("door in 0;staging " + (load - 1) + ";in 3 0 0 " + load + " 0;");
            checks.due("one is left", y.truck(0, 9), NONE);
            checks.due("has taken off one fewer", y.truck(0, 10), load - 1);
        }
    }

    /** The TRUCK LEAVES, if of all CARTONS for its DESTINATION that TRUCKS of the PLAN bring none is left. */
    private static void outLeavesWhenNoneIsLeft() {
        DockTurns x = Checks.told("door out 0;door in 0;in 50 1 1 1 0;out 4 3 99 9 1;");
        checks.due("none for 3 is brought", x.truck(1, 9), 4);
        DockTurns y = Checks.told("door out 0;door in 0;in 50 0 0 0 1;out 4 3 99 9 1;");
        checks.due("one for 3 comes in minute 50", y.truck(1, 9), 51);
        DockTurns z = Checks.told("door out 0;door out 0;door in 0;in 0 3 0 0 0;out 0 0 99 2 1;out 0 0 99 1 1;");
        // The first DOOR has the CARTONS of minutes 1 and 2; the second one that of minute 3, and is full with it.
        checks.due("full", z.truck(1, 9), 2);
        checks.due("the next DOOR has what is left", z.carton(2, 4), 2);
        checks.due("full", z.truck(2, 9), 3);
    }

    private static void outOfNoRowIsNotWaitedFor() {
        DockTurns x = Checks.told("door out 0;in 0 9 0 0 0;out 4 0 99 9 1;");
        checks.due("those of no ROW are not of the PLAN", x.truck(1, 9), 4);
        checks.due("but cost a hundred each", x.count(6), 900);
        DockTurns y = Checks.told("door in 0;door out 0;staging 0;in 0 9 0 0 0;out 4 0 99 9 1;");
        checks.due("those that never come off are waited for", y.truck(1, 9), NONE);
    }

    /** Minutes 0 to 199: what would come in minute 200 does not. */
    private static void minute199() {
        DockTurns x = Checks.told("door in 0;door out 99;staging 1;change 9;in 99 10 0 0 0;out 0 0 189 40 9;");
        // STAGING 1 and TRAVEL 10: off at 99, 109, .. 189, on ten minutes later each.
        checks.due("the last one goes off", x.carton(9, 2), 189);
        checks.due("and on in minute 199", x.carton(9, 3), 199);
        checks.due("then it leaves", x.truck(1, 9), 199);
        checks.due("late by ten", x.truck(1, 11), 10);
        checks.due("the last minute in which one leaves", x.count(13), 199);
        checks.due("none is staged at its end", x.staged(199, NONE), 0);
        checks.due("it stands there", x.at(1, 199), 1);
        DockTurns y = Checks.told("door in 0;door out 99;staging 1;change 9;in 99 11 0 0 0;out 0 0 189 40 9;");
        checks.due("the eleventh goes off in minute 199", y.carton(10, 2), 199);
        checks.due("and its TRUCK leaves", y.truck(0, 9), 199);
        checks.due("it does not go on in minute 200", y.carton(10, 3), NONE);
        checks.due("it is not put on any", y.carton(10, 4), NONE);
        checks.due("the OUT one does not leave", y.truck(1, 9), NONE);
        checks.due("late by 200 less DUE", y.truck(1, 11), 11);
        checks.due("one is staged at the end", y.staged(199, 0), 1);
        DockTurns z = Checks.told("door in 0;door out 99;staging 1;change 9;in 99 12 0 0 0;out 0 0 189 40 9;");
        checks.due("the twelfth does not go off in minute 200", z.carton(11, 2), NONE);
        checks.due("its TRUCK does not leave", z.truck(0, 9), NONE);
        checks.due("it stands there to the end", z.at(0, 199), 0);
    }

    private static void docksIn199() {
        // STAGING 1 and TRAVEL 9: off at 99, 108, .. 198, with which the first one leaves.
        String text = "door in 0;door out 90;staging 1;in 99 12 0 0 0;in 99 1 0 0 0;out 0 0 199 40 1;change ";
        DockTurns x = Checks.told(text + "0;");
        checks.due("the first one leaves", x.truck(0, 9), 198);
        checks.due("the next one docks in minute 199", x.truck(1, 8), 199);
        checks.due("and stands there", x.at(0, 199), 1);
        checks.due("for a minute", x.door(0, 3), 100 + 1);
        DockTurns y = Checks.told(text + "1;");
        checks.due("not in minute 200", y.truck(1, 8), NONE);
        checks.due("none stands there", y.at(0, 199), NONE);
        checks.due("for no minute", y.door(0, 3), 100);
        checks.due("it does not leave", y.truck(1, 9), NONE);
    }

    private static void putOnIn199() {
        // The one of the near DOOR waits till the far one has none left, and is a minute on its way then.
        DockTurns x = Checks.told("door in 9;door in 89;door out 99;staging 1;in 99 11 0 0 0;in 99 1 0 0 0;out 0 0 199 40 1;");
        checks.due("off", x.carton(11, 2), 198);
        checks.due("on in minute 199", x.carton(11, 3), 199);
        checks.due("with which the OUT one leaves", x.truck(2, 9), 199);
        checks.due("not late", x.truck(2, 11), 0);
        DockTurns y = Checks.told("door in 0;door in 89;door out 99;staging 1;in 99 10 0 0 0;in 99 1 0 0 0;out 0 0 199 40 1;");
        checks.due("off", y.carton(10, 2), 199);
        checks.due("not on in minute 200", y.carton(10, 3), NONE);
        checks.due("so the OUT one does not leave", y.truck(2, 9), NONE);
        checks.due("late by one", y.truck(2, 11), 1);
        checks.due("ten are put on", y.count(7), 10);
    }

    /** LATE: by how much it LEAVES behind DUE, 0 to 199. */
    private static void lateByTheDue() {
        for (int due = 0; due <= 199; due++) {
            DockTurns x = Checks.told("door out 0;out 99 0 " + due + " 1 9;");
            int late = due < 99 ? 99 - due : 0;
            checks.due("LATE by DUE " + due, x.truck(0, 11), late);
            checks.due("COST", x.count(6), 9 * late);
            checks.due("LATE times WEIGHT", x.count(8), 9 * late);
        }
    }

    /** That of one that does not: 200 less DUE. */
    private static void lateOfOneThatDoesNotLeave() {
        for (int due = 0; due <= 199; due++) {
            DockTurns x = Checks.told("out 0 0 " + due + " 1 9;");
            checks.due("in no ROW", x.truck(0, 11), 200 - due);
            checks.due("COST", x.count(6), 9 * (200 - due));
            DockTurns y = Checks.told("door out 0;door in 0;staging 0;in 0 1 0 0 0;out 5 0 " + due + " 1 9;");
            checks.due("docked", y.truck(1, 11), 200 - due);
            checks.due("COST", y.count(6), 9 * (200 - due) + 100);
        }
    }

    private static void weights() {
        for (int weight = 1; weight <= 9; weight++) {
            DockTurns x = Checks.told("door out 0;door out 0;out 7 0 5 1 " + weight + ";out 3 0 0 1 1;in 0 1 0 0 0;");
            checks.due("LATE times WEIGHT of all", x.count(8), 2 * weight + 3);
            checks.due("of an IN one it is 0", x.truck(2, 11), 0);
            checks.due("COST", x.count(6), 2 * weight + 3 + 100);
        }
    }

    /** 100 for each that is not put on (of TRUCKS in no ROW, too). */
    private static void aHundredForEachLeft() {
        for (int load = 1; load <= 15; load++) {
            checks.due("staged for ever", Checks.told("door in 0;staging 40;in 0 0 " + load + " 0 0;").count(6), 100 * load);
            checks.due("in no ROW", Checks.told("in 0 0 " + load + " 0 0;").count(6), 100 * load);
        }
        checks.due("40", Checks.told("in 0 10 10 10 10;").count(6), 4000);
    }

    /** TRAVEL of CARTONS put on, minutes that they were STAGED: not of those that stand there, or are not taken off. */
    private static void countsOfThosePutOn() {
        DockTurns x = Checks.told("door in 0;door out 11;staging 1;in 3 1 1 1 0;out 0 0 4 9 3;");
        checks.due("put on", x.count(7), 1);
        checks.due("LATE times WEIGHT", x.count(8), 3);
        checks.due("TRAVEL", x.count(9), 2);
        checks.due("minutes", x.count(10), 2);
        checks.due("COST", x.count(6), 3 + 2 + 2 + 200);
        DockTurns y = Checks.told("door in 0;door out 99;staging 40;in 0 15 0 0 0;out 0 0 199 15 1;");
        checks.due("all are put on", y.count(7), 15);
        checks.due("TRAVEL", y.count(9), 150);
        checks.due("minutes", y.count(10), 150);
        checks.due("COST", y.count(6), 300);
    }

    private static void countsOfNothing() {
        DockTurns x = Checks.told("door in 0;door out 9;");
        int[] want = {2, 0, 0, 10, 2, 0, 0, 0, 0, 0, 0, 0, NONE, NONE, 0, 0, 0, 0, 0};
        for (int what = 0; what < want.length; what++) {
            checks.due("DOORS alone: count(" + what + ")", x.count(what), want[what]);
        }
    }

    /** NONE for another what. */
    private static void whatOfCounts() {
        DockTurns x = Checks.told(FORTY);
        for (int what : FAR) {
            checks.due("count(" + what + ")", x.count(what), NONE);
        }
        for (int what = 19; what <= 40; what++) {
            checks.due("count(" + what + ")", x.count(what), NONE);
        }
        checks.due("the first what", x.count(0), 3);
        // STAGING is 10, so ten come off, and all three TRUCKS stand there to the end.
        checks.due("the last what", x.count(18), 3 * 200 - 10);
    }

    /** The most STAGED at the end of any minute, and the first minute at the end of which so many are. */
    private static void mostStagedIsTheFirstTime() {
        DockTurns x = Checks.told("door in 0;door in 0;door out 0;in 4 1 0 0 0;in 9 1 0 0 0;out 0 0 99 9 1;");
        checks.due("one at a time", x.count(11), 1);
        checks.due("the first of two times", x.count(12), 4);
        DockTurns y = Checks.told("door in 0;door out 0;in 0 3 0 0 0;out 0 0 99 9 1;");
        checks.due("at the end of a minute one, not two", y.count(11), 1);
        DockTurns z = Checks.told("door in 0;staging 1;in 99 1 0 0 0;");
        checks.due("from minute 99 on", z.count(12), 99);
        DockTurns first = Checks.told("door in 0;door out 0;in 0 1 0 0 0;out 0 0 9 9 1;");
        checks.due("in minute 0 alone", first.count(11), 1);
        checks.due("in minute 0 alone", first.count(12), 0);
        DockTurns last = Checks.told("door in 0;door out 99;staging 1;in 99 11 0 0 0;out 0 0 189 40 9;");
        checks.due("to minute 199", last.staged(199, NONE), 1);
        DockTurns none = Checks.told("door in 0;staging 0;in 9 1 0 0 0;");
        checks.due("0 always", none.count(11), 0);
        checks.due("0 always", none.count(12), NONE);
    }

    /** The last minute in which any LEAVES (NONE: none does). */
    private static void lastLeaving() {
        checks.due("an IN one", Checks.told("door in 0;door out 0;in 5 0 1 0 0;out 0 0 0 1 1;").count(13), 5);
        checks.due("an OUT one", Checks.told("door in 0;door out 0;in 0 0 1 0 0;out 6 0 0 1 1;").count(13), 6);
        checks.due("in minute 0", Checks.told("door out 0;out 0 0 0 1 1;").count(13), 0);
        checks.due("none does", Checks.told("door in 0;staging 0;in 0 1 0 0 0;").count(13), NONE);
        checks.due("none is there", Checks.told("door in 0;").count(13), NONE);
    }

    private static void whichDoNotLeave() {
        checks.due("all do", Checks.told("door in 0;door out 0;in 0 1 0 0 0;out 0 0 9 9 1;").count(14), 0);
        checks.due("in no ROW", Checks.told("door in 0;in 0 1 0 0 0;out 0 0 9 9 1;").count(14), 1);
        checks.due("docked, or behind one that is", Checks.told("door in 0;staging 0;in 0 1 0 0 0;in 0 1 0 0 0;").count(14), 2);
    }

    /** Minutes in which a TRUCK at an IN DOOR takes nothing OFF, together. */
    private static void takesNothingOff() {
        checks.due("none stands there", Checks.told("door in 0;in 50 1 0 0 0;").count(18), 0);
        checks.due("the whole run", Checks.told("door in 0;staging 0;in 0 1 0 0 0;").count(18), 200);
        checks.due("the last hundred and one minutes", Checks.told("door in 0;staging 0;in 99 1 0 0 0;").count(18), 101);
        checks.due("of an OUT one it does not tell", Checks.told("door out 0;door in 0;in 9 1 0 0 0;out 0 0 9 9 1;").count(18), 0);
        checks.due("not of one that never docks", Checks.told("door in 0;staging 0;in 0 1 0 0 0;in 0 1 0 0 0;").count(18), 200);
        checks.due("nor of one in no ROW", Checks.told("in 0 1 0 0 0;").count(18), 0);
        checks.due("but for the minute of the first", Checks.told("door in 0;staging 1;in 0 2 0 0 0;").count(18), 199);
    }

    private static void dueUnsuch(String what, Checks.Call call) {
        checks.dueNoSuchElement(what, call);
    }

    /** NoSuchElementException: there is none such, another what. */
    private static void whatOfDoors() {
        DockTurns x = Checks.told("door in 0;door out 99;");
        int[][] want = {{0, 0, 0, 0, 0}, {1, 99, 0, 0, 0}};
        for (int door = 0; door < 2; door++) {
            int one = door;
            for (int what = 0; what < 5; what++) {
                checks.due("door(" + door + ", " + what + ")", x.door(door, what), want[door][what]);
            }
            dueUnsuch("door(" + door + ", 5)", () -> x.door(one, 5));
            for (int odd : FAR) {
                dueUnsuch("door(" + door + ", " + odd + ")", () -> x.door(one, odd));
            }
        }
        dueUnsuch("a third one", () -> x.door(2, 0));
        for (int odd : FAR) {
            dueUnsuch("door(" + odd + ", 0)", () -> x.door(odd, 0));
            dueUnsuch("door(" + odd + ", " + odd + ")", () -> x.door(odd, odd));
        }
    }

    /** Minutes in which one stands there (the one in which it LEAVES, too). */
    private static void minutesAtADoor() {
        checks.due("none", Checks.told("door in 0;").door(0, 3), 0);
        checks.due("docks and leaves in one", Checks.told("door in 0;in 7 1 0 0 0;").door(0, 3), 1);
        checks.due("two TRUCKS, with CHANGE between", Checks.told("door in 0;in 7 1 0 0 0;in 7 2 0 0 0;").door(0, 3), 3);
        checks.due("all minutes", Checks.told("door in 0;staging 0;in 0 1 0 0 0;").door(0, 3), 200);
        checks.due("from 99 on", Checks.told("door in 0;staging 0;in 99 1 0 0 0;").door(0, 3), 101);
        checks.due("one that never docks", Checks.told("door in 0;staging 0;in 0 1 0 0 0;in 0 1 0 0 0;").door(0, 3), 200);
        DockTurns x = Checks.told("door in 0;door in 0;door out 0;in 0 3 0 0 0;out 0 0 9 9 1;");
        checks.due("OFF", x.door(0, 4), 3);
        checks.due("none OFF", x.door(1, 4), 0);
        checks.due("ON", x.door(2, 4), 3);
        checks.due("three minutes", x.door(0, 3), 3);
        checks.due("no minute, though others stand elsewhere", x.door(1, 3), 0);
        checks.due("minutes 0 to 3", x.door(2, 3), 4);
    }

    /** The k-th TRUCK of a DOOR's ROW. NONE: there is none such (of either). */
    private static void rows() {
        DockTurns x = Checks.told("door in 0;door in 0;" + "in 0 1 0 0 0;".repeat(8));
        checks.dueRow("by turns", x, 0, 0, 2, 4, 6);
        checks.dueRow("by turns", x, 1, 1, 3, 5, 7);
        for (int odd : FAR) {
            checks.due("row(0, " + odd + ")", x.row(0, odd), NONE);
            checks.due("row(" + odd + ", 0)", x.row(odd, 0), NONE);
            checks.due("row(" + odd + ", " + odd + ")", x.row(odd, odd), NONE);
        }
        checks.due("row(0, 4)", x.row(0, 4), NONE);
        checks.due("row(2, 0)", x.row(2, 0), NONE);
        DockTurns y = Checks.told("door out 0;in 0 1 0 0 0;");
        checks.due("an empty ROW", y.row(0, 0), NONE);
        checks.due("TRUCKS of no ROW are in none", y.row(NONE, NONE), NONE);
    }

    private static int orNoSuch(DockTurns x, int truck, int what) {
        try {
            return x.truck(truck, what);
        } catch (NoSuchElementException e) {
            return Integer.MIN_VALUE;
        }
    }

    private static void whatOfTrucks() {
        DockTurns x = Checks.told("door in 0;in 7 1 2 3 4;out 8 3 150 12 6;");
        int[] in = {0, 7, NONE, NONE, 10, NONE, 0, 0, 7, 16, 10, 0, 0};
        int[] out = {1, 8, 3, 150, 12, 6, NONE, NONE, NONE, NONE, 0, 50, 0};
        for (int what = -3; what <= 30; what++) {
            boolean isLoad = what >= 20 && what <= 23;
            boolean isOther = what < 0 || what > 12;
            int unsuch = Integer.MIN_VALUE;
            checks.due("truck(0, " + what + ")", orNoSuch(x, 0, what), isLoad ? what - 19 : isOther ? unsuch : in[what]);
            checks.due("truck(1, " + what + ")", orNoSuch(x, 1, what), isLoad ? 0 : isOther ? unsuch : out[what]);
            checks.due("truck(2, " + what + ")", orNoSuch(x, 2, what), unsuch);
            checks.due("truck(-1, " + what + ")", orNoSuch(x, NONE, what), unsuch);
        }
        for (int odd : FAR) {
            dueUnsuch("truck(0, " + odd + ")", () -> x.truck(0, odd));
            dueUnsuch("truck(" + odd + ", 0)", () -> x.truck(odd, 0));
            dueUnsuch("truck(" + odd + ", 20)", () -> x.truck(odd, 20));
        }
        DockTurns eight = Checks.told("in 0 1 0 0 0;".repeat(8));
        checks.due("the eighth", eight.truck(7, 4), 1);
        dueUnsuch("a ninth", () -> eight.truck(8, 4));
    }

    private static void whatOfCartons() {
        // Carton 0 is put on, 1 stands there, 2 is not taken off.
        DockTurns x = Checks.told("door in 0;door out 11;staging 1;in 3 1 1 1 0;out 0 0 99 9 1;");
        int[][] want = {{0, 0, 3, 5, 1, 2}, {0, 1, 5, NONE, NONE, NONE}, {0, 2, NONE, NONE, NONE, NONE}};
        for (int carton = 0; carton < 3; carton++) {
            int one = carton;
            for (int what = 0; what < 6; what++) {
                checks.due("carton(" + carton + ", " + what + ")", x.carton(carton, what), want[carton][what]);
            }
            dueUnsuch("carton(" + carton + ", 6)", () -> x.carton(one, 6));
            for (int odd : FAR) {
                dueUnsuch("carton(" + carton + ", " + odd + ")", () -> x.carton(one, odd));
            }
        }
        dueUnsuch("carton(3, 0)", () -> x.carton(3, 0));
        for (int odd : FAR) {
            dueUnsuch("carton(" + odd + ", 0)", () -> x.carton(odd, 0));
        }
        DockTurns forty = Checks.told(FORTY);
        checks.due("the fortieth", forty.carton(39, 0), 2);
        dueUnsuch("a 41st", () -> forty.carton(40, 0));
    }

    /** At the end of a minute, 0 to 199, of a DESTINATION, or (NONE) all. NONE: others. */
    private static void stagedMinutes() {
        DockTurns x = Checks.told("door in 0;door in 0;door in 0;in 0 1 0 0 0;in 0 0 0 0 1;in 99 0 2 0 0;");
        int[] of0 = {1, 1, 1, 1};
        int[] of1 = {0, 0, 1, 2};
        int[] minutes = {0, 98, 99, 199};
        for (int i = 0; i < minutes.length; i++) {
            checks.due("for 0", x.staged(minutes[i], 0), of0[i]);
            checks.due("for 1", x.staged(minutes[i], 1), of1[i]);
            checks.due("for 2", x.staged(minutes[i], 2), 0);
            checks.due("for 3", x.staged(minutes[i], 3), of0[i]);
            checks.due("all", x.staged(minutes[i], NONE), 2 * of0[i] + of1[i]);
            checks.due("for 4", x.staged(minutes[i], 4), NONE);
            checks.due("for -2", x.staged(minutes[i], -2), NONE);
            checks.due("for the least", x.staged(minutes[i], Integer.MIN_VALUE), NONE);
            checks.due("for the most", x.staged(minutes[i], Integer.MAX_VALUE), NONE);
        }
        for (int odd : new int[] {-1, 200, Integer.MIN_VALUE, Integer.MAX_VALUE}) {
            checks.due("staged(" + odd + ", 0)", x.staged(odd, 0), NONE);
            checks.due("staged(" + odd + ", NONE)", x.staged(odd, NONE), NONE);
        }
        checks.due("of none", new DockTurns().staged(199, 3), 0);
    }

    /** In a minute (in which it DOCKS, LEAVES, too). NONE: none, others. */
    private static void atMinutes() {
        DockTurns x = Checks.told("door in 0;door in 0;staging 40;in 5 3 0 0 0;in 5 15 0 0 0;in 5 1 0 0 0;");
        int[] minutes = {0, 4, 5, 6, 7, 8, 9, 10, 11, 199};
        int[] want = {NONE, NONE, 0, 0, 0, NONE, NONE, 2, NONE, NONE};
        for (int i = 0; i < minutes.length; i++) {
            checks.due("at(0, " + minutes[i] + ")", x.at(0, minutes[i]), want[i]);
        }
        checks.due("at(2, 5)", x.at(2, 5), NONE);
        for (int odd : FAR) {
            checks.due("at(" + odd + ", 5)", x.at(odd, 5), NONE);
            checks.due("at(0, " + odd + ")", x.at(0, odd), NONE);
        }
        DockTurns y = Checks.told("door in 0;staging 0;in 0 1 0 0 0;");
        checks.due("from the first minute", y.at(0, 0), 0);
        checks.due("to the last", y.at(0, 199), 0);
        checks.due("not ahead", y.at(0, -1), NONE);
        checks.due("not behind", y.at(0, 200), NONE);
        DockTurns z = Checks.told("door in 0;change 0;in 0 1 0 0 0;in 0 1 0 0 0;");
        checks.due("one leaves", z.at(0, 0), 0);
        checks.due("the next one docks", z.at(0, 1), 1);
    }

    /** The difference of their SPOTS by 10, rounded up. NONE: there are none such. */
    private static void travels() {
        for (int apart = 0; apart <= 99; apart++) {
            DockTurns x = Checks.told("door in " + apart + ";door out 0;door in 99;");
            checks.due("apart by " + apart, x.travel(0, 1), apart / 10 + (apart % 10 > 0 ? 1 : 0));
            checks.due("likewise", x.travel(1, 0), x.travel(0, 1));
            checks.due("from 99", x.travel(0, 2), (99 - apart) / 10 + ((99 - apart) % 10 > 0 ? 1 : 0));
            checks.due("of one alone", x.travel(0, 0), 0);
        }
        DockTurns y = Checks.told("door in 5;");
        checks.due("no second one", y.travel(0, 1), NONE);
        checks.due("no second one", y.travel(1, 0), NONE);
        for (int odd : FAR) {
            checks.due("travel(0, " + odd + ")", y.travel(0, odd), NONE);
            checks.due("travel(" + odd + ", 0)", y.travel(odd, 0), NONE);
        }
    }
}
