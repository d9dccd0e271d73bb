/** The boundary cases of days, pieces kept and counts: promises 23 to 26, their terms, and the 512 calls of an object. */
public final class BoundaryDaysTest {
    private static final int BAD = Checks.BAD, NO = Checks.NO, FULL = Checks.FULL, NONE = Checks.NONE;
    private static final int LEAST = Checks.LEAST, MOST = Checks.MOST;

    private static final Checks CHECKS = new Checks();

    public static void main(String[] args) {
        numbersOfADay();
        theOnlyOneIsNotTakenByADay();
        putIfThereIsRoom();
        theFirstAndTheLastTime();
        drawsBeyondAnInt();
        aDayFromNowOn();
        aDayInEachMode();
        aDayChangesNothing();
        twoAreKept();
        keptAsItStands();
        backWithoutAnyKept();
        backLeavesNothingUndone();
        keptNoMoreWhenLaid();
        numbersOfCount();
        countsAtTheirEdges();
        fiveHundredAndTwelveCalls();
        CHECKS.end();
    }

    private static void due(String call, int got, int want) {
        CHECKS.due(call, got, want);
    }

    private static void dayIs(String text, int z, int n, int what, int want) {
        due("day(" + z + ", " + n + ", " + what + ") of " + text, Checks.laid(text).day(z, n, what), want);
    }

    private static void numbersOfADay() {
        CHECKS.sentence("A DAY by z (0 to 9999) of n (1 to 20): NOTES (what = 0), SHAPES (1), PRICE (2). BAD");
        int[][] bad = {{-1, 1, 0}, {10000, 1, 0}, {0, 0, 0}, {0, 21, 0}, {9999, 0, 2}, {9999, 21, 2}, {0, -1, 0}, {0, 1, -1}, {0, 1, 3},
            {9999, 20, 3}, {10000, 21, 3}, {LEAST, 1, 0}, {MOST, 1, 0}, {0, LEAST, 0}, {0, MOST, 0}, {0, 1, LEAST}, {0, 1, MOST}};
        for (int[] b : bad) {
            CHECKS.unchanged(Checks.RICH, "day(" + b[0] + ", " + b[1] + ", " + b[2] + ")", x -> x.day(b[0], b[1], b[2]), BAD);
        }
        // of 0,0 4,6 4,7 19,11 the draw 1 of z 0 takes 0,0; the first draw of z 9999 puts 12,8
        CHECKS.unchanged(Checks.RICH, "day(0, 1, 0)", x -> x.day(0, 1, 0), 3);
        CHECKS.unchanged(Checks.RICH, "day(9999, 1, 0)", x -> x.day(9999, 1, 0), 5);
    }

    /** By z 0 the draws are at 0,0 5,6 7,4 4,2 8,8 7,6 2,5 3,11 10,2 13,4 11,11 6,5 16,4 3,3 15,9 3,8 7,7 7,6 3,9 4,8. */
    private static void theOnlyOneIsNotTakenByADay() {
        CHECKS.sentence("it is TAKEN (if it is not the only one)");
        dayIs("n0,0;", 0, 1, 0, 1);
        dayIs("n0,0;", 0, 1, 1, 0);
        dayIs("n0,0;", 0, 1, 2, 1);
        dayIs("n0,0;n5,6;", 0, 1, 0, 1);
        dayIs("n0,0;n5,6;", 0, 2, 0, 1);
        dayIs("n0,0;n5,6;", 0, 3, 0, 2);
        dayIs("n0,0;n5,6;n7,4;", 0, 2, 0, 1);
        dayIs("n0,0;n5,6;n7,4;", 0, 3, 0, 1);
        dayIs("n0,0;n5,6;n7,4;", 0, 4, 0, 2);
        dayIs("n5,6;", 0, 1, 0, 2);
        dayIs("n5,6;", 0, 2, 0, 1);
    }

    private static void putIfThereIsRoom() {
        CHECKS.sentence("else it is PUT (if there is room)");
        String thirteen = Checks.FOURTEEN.substring(5);
        dayIs(thirteen, 0, 1, 0, 14);
        dayIs(thirteen, 0, 2, 0, 14);
        dayIs(Checks.FOURTEEN, 0, 1, 0, 14);
        dayIs(Checks.FOURTEEN, 0, 20, 0, 14);
        dayIs("n0,0;" + thirteen, 0, 1, 0, 13);
        dayIs("n0,0;" + thirteen, 0, 2, 0, 14);
        // the 14th comes by the 13th draw; the draws behind it find no room, until the 18th takes 7,6 again
        for (int n = 1; n <= 20; n++) {
            dayIs("n19,11;", 0, n, 0, n == 18 ? 13 : Math.min(n + 1, 14));
        }
    }

    private static void theFirstAndTheLastTime() {
        CHECKS.sentence("of n (1 to 20): the k-th time (0 first)");
        // the 20th draw of z 0 is at 4,8
        dayIs("n4,8;", 0, 19, 0, 14);
        dayIs("n4,8;", 0, 20, 0, 13);
        // the 20th draw of z 9999 is at 9,9, its first at 12,8
        dayIs("n9,9;", 9999, 19, 0, 14);
        dayIs("n9,9;", 9999, 20, 0, 13);
        dayIs("n12,8;", 9999, 1, 0, 1);
        dayIs("n12,8;n1,1;", 9999, 1, 0, 1);
        dayIs("n16,7;n1,1;", 9999, 1, 0, 3);
        dayIs("n16,7;n1,1;", 9999, 2, 0, 2);
    }

    /** x is 79182082 by z 9999: its square is beyond an int, and the draw is 51303. */
    private static void drawsBeyondAnInt() {
        CHECKS.sentence("DRAW being (x times x) modulo 65521; (DRAW by 8, cut) modulo 20, (DRAW by 256, cut) modulo 12");
        int taken = 0;
        for (int time = 0; time < 20; time++) {
            for (int pitch = 0; pitch < 12; pitch++) {
                String other = time == 19 ? "n0,0;" : "n19,11;";
                boolean isTaken = Checks.laid("n" + time + "," + pitch + ";" + other).day(9999, 1, 0) == 1;
                taken += isTaken ? 100 * time + pitch : 0;
            }
        }
        due("the one place that is taken, 12,8", taken, 1208);
        // by z 77 the draws are at 14,9 2,5 6,2
        dayIs("n14,9;n2,5;n6,2;n1,1;", 77, 1, 0, 3);
        dayIs("n14,9;n2,5;n6,2;n1,1;", 77, 3, 0, 1);
    }

    private static void aDayFromNowOn() {
        CHECKS.sentence("A DAY from now on: how many NOTES there are then; SHAPES; PRICE");
        // 0,0 is put: two shapes of gain 1, of which the first has two notes and two places
        ShiftedShapes x = Checks.laid("n1,1;n4,2;n5,3;");
        due("day(0, 1, 0)", x.day(0, 1, 0), 4);
        due("day(0, 1, 1)", x.day(0, 1, 1), 2);
        due("day(0, 1, 2)", x.day(0, 1, 2), 3);
        x.put(0, 0);
        due("day(0, 1, 0) behind put(0, 0)", x.day(0, 1, 0), 3);
        due("day(0, 1, 1) behind put(0, 0)", x.day(0, 1, 1), 0);
        due("day(0, 1, 2) behind put(0, 0)", x.day(0, 1, 2), 3);
        x.undo();
        due("day(0, 1, 0) behind undo()", x.day(0, 1, 0), 4);
    }

    private static void aDayInEachMode() {
        CHECKS.sentence("A DAY: SHAPES of the MODE");
        // 0,0 is put to 9,9: near, both meet themselves; to 0,6: round, they meet one another
        dayIs("m0;n9,9;", 0, 1, 1, 0);
        dayIs("m1;n9,9;", 0, 1, 1, 0);
        dayIs("m2;n9,9;", 0, 1, 1, 1);
        dayIs("m2;n9,9;", 0, 1, 2, 2);
        dayIs("m0;n0,6;", 0, 1, 1, 0);
        dayIs("m1;n0,6;", 0, 1, 1, 1);
        dayIs("m1;n0,6;", 0, 1, 2, 2);
    }

    private static void aDayChangesNothing() {
        CHECKS.sentence("A DAY: the piece stays as it is");
        for (int what = 0; what <= 2; what++) {
            int asked = what;
            int got = Checks.RICH.make().day(5, 20, what);
            CHECKS.unchanged(Checks.RICH, "day(5, 20, " + what + ")", x -> x.day(5, 20, asked), got);
        }
    }

    private static void twoAreKept() {
        CHECKS.sentence("KEPT: 2 at most. FULL");
        ShiftedShapes x = new ShiftedShapes();
        due("keep()", x.keep(), 1);
        due("keep()", x.keep(), 2);
        due("keep(), a third", x.keep(), FULL);
        due("count(3)", x.count(3), 2);
        due("back()", x.back(), 1);
        due("keep(), room again", x.keep(), 2);
        due("keep()", x.keep(), FULL);
        CHECKS.unchanged(new Checks.State("n1,1;n2,2;", y -> y.keep(), y -> y.put(3, 3), y -> y.keep(), y -> y.put(4, 4), y -> y.mode(1)),
            "keep(), a third", y -> y.keep(), FULL);
    }

    private static void keptAsItStands() {
        CHECKS.sentence("KEPT is all as it stands; As KEPT last: how many are left");
        ShiftedShapes x = Checks.laid("n1,1;n2,2;");
        x.keep();
        x.mode(1);
        x.put(19, 11);
        x.keep();
        x.shiftAll(-1, 0);
        x.take(0);
        x.mode(2);
        due("back()", x.back(), 1);
        CHECKS.notesAre("as kept last", x, 1, 1, 2, 2, 19, 11);
        due("count(1)", x.count(1), 1);
        due("shapes(0)", x.shapes(0), 0);
        due("back()", x.back(), 0);
        CHECKS.notesAre("as kept first", x, 1, 1, 2, 2);
        due("count(1)", x.count(1), 0);
        due("better(0), of the piece as it stands", x.better(0), 0);
        due("back()", x.back(), NO);
    }

    private static void backWithoutAnyKept() {
        CHECKS.sentence("As KEPT last. NO");
        due("back() of a new object", new ShiftedShapes().back(), NO);
        CHECKS.unchanged(new Checks.State("n1,1;n2,2;", x -> x.put(3, 3), x -> x.mode(2), x -> x.take(0)), "back() of none",
            x -> x.back(), NO);
        CHECKS.unchanged(new Checks.State("n1,1;n2,2;", x -> x.keep(), x -> x.back(), x -> x.put(3, 3)), "back() of none any more",
            x -> x.back(), NO);
    }

    private static void backLeavesNothingUndone() {
        CHECKS.sentence("nothing is UNDONE then");
        ShiftedShapes x = Checks.laid("n1,1;n2,2;");
        x.put(3, 3);
        x.keep();
        x.put(4, 4);
        due("count(2)", x.count(2), 2);
        due("back()", x.back(), 0);
        due("count(2)", x.count(2), 0);
        due("undo()", x.undo(), NO);
        CHECKS.notesAre("as kept", x, 1, 1, 2, 2, 3, 3);
        x.take(0);
        due("undo() of an act since", x.undo(), 0);
        CHECKS.notesAre("undone", x, 1, 1, 2, 2, 3, 3);
        ShiftedShapes kept = Checks.laid("n1,1;n2,2;");
        kept.put(3, 3);
        kept.keep();
        due("undo() behind keep()", kept.undo(), 0);
        due("count(3)", kept.count(3), 1);
    }

    private static void keptNoMoreWhenLaid() {
        CHECKS.sentence("LAID: nothing UNDONE, KEPT");
        ShiftedShapes x = Checks.laid("n1,1;n2,2;");
        x.keep();
        x.keep();
        x.lay();
        due("back() behind lay()", x.back(), NO);
        due("keep() behind lay()", x.keep(), 1);
    }

    private static void numbersOfCount() {
        CHECKS.sentence("How many: 0 NOTES, 1 MODE, 2 that can be UNDONE, 3 KEPT, 4 letters of THE TEXT. BAD");
        int[] due = {4, 2, 5, 1, 13};
        for (int what = 0; what <= 4; what++) {
            int asked = what;
            CHECKS.unchanged(Checks.RICH, "count(" + what + ")", x -> x.count(asked), due[what]);
        }
        for (int what : new int[] {-1, 5, LEAST, MOST}) {
            CHECKS.unchanged(Checks.RICH, "count(" + what + ")", x -> x.count(what), BAD);
        }
    }

    private static void countsAtTheirEdges() {
        CHECKS.sentence("How many: the fewest and the most");
        ShiftedShapes least = Checks.laid("n1,1;");
        least.wipe();
        int[] few = {1, 0, 0, 0, 0};
        for (int what = 0; what <= 4; what++) {
            due("count(" + what + ")", least.count(what), few[what]);
        }
        ShiftedShapes most = Checks.laid(Checks.padded(Checks.FOURTEEN, 200));
        for (int i = 0; i < 9; i++) {
            most.mode(i % 2 == 0 ? 2 : 1);
        }
        most.keep();
        most.keep();
        int[] many = {14, 2, 8, 2, 200};
        for (int what = 0; what <= 4; what++) {
            due("count(" + what + ")", most.count(what), many[what]);
        }
    }

    /** 256 pairs of calls and no more: the last ones still answer. */
    private static void fiveHundredAndTwelveCalls() {
        CHECKS.sentence("An object is used for at most 512 calls after it has been made");
        ShiftedShapes x = new ShiftedShapes();
        for (int i = 1; i <= 254; i++) {
            due("put(19, 11), call " + (2 * i - 1), x.put(19, 11), 13);
            due("undo(), call " + 2 * i, x.undo(), 0);
        }
        due("shapes(0), call 509", x.shapes(0), 9);
        due("better(0), call 510", x.better(0), 1005);
        due("parting(2), call 511", x.parting(2), 9);
        due("shape(9, 0), call 512", x.shape(9, 0), BAD);
        ShiftedShapes y = new ShiftedShapes();
        for (int i = 1; i <= 511; i++) {
            due("write(110), call " + i, y.write('n'), i <= 200 ? i : FULL);
        }
        due("best(1), call 512", y.best(1), 104);
        ShiftedShapes z = Checks.laid("n1,1;");
        for (int i = 7; i <= 511; i++) {
            due("parted(0, 0), call " + i, z.parted(0, 0), NONE);
        }
        due("take(0), call 512", z.take(0), NO);
        ShiftedShapes fewest = new ShiftedShapes();
        for (int i = 1; i <= 512; i++) {
            due("shapes(1), call " + i, fewest.shapes(1), 2);
        }
    }
}
