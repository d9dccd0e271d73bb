/** One method for each promise of the document; every answer that is due was worked out by hand from its words. */
public final class PromiseTest {
    private static final int BAD = -1, NO = -2, FULL = -3, NONE = -4;
    private static final int LEAST = Integer.MIN_VALUE, MOST = Integer.MAX_VALUE;

    private static final int[] FIRST_TIMES = {0, 1, 2, 4, 5, 6, 8, 9, 10, 12, 13, 14, 15};
    private static final int[] FIRST_PITCHES = {2, 4, 5, 4, 6, 7, 2, 4, 6, 0, 2, 3, 11};

    /** By (1,1) notes 0 and 2, by (4,2) notes 0 and 1 come upon others. */
    private static final String FOUR = "n0,0;n1,1;n4,2;n5,3;";
    private static final String FIVE = FOUR + "n10,11;";
    private static final String FOURTEEN =
        "n1,0;n1,1;n1,2;n1,3;n1,4;n1,5;n1,6;n1,7;n1,8;n1,9;n1,10;n1,11;n2,0;n2,1;";

    private static int calls = 0;
    private static int wrong = 0;
    private static int promise = 0;

    public static void main(String[] args) {
        newObject();
        write();
        wipe();
        fault();
        lay();
        note();
        put();
        take();
        shift();
        shiftAll();
        mode();
        undo();
        largest();
        meets();
        shape();
        place();
        best();
        parted();
        parting();
        shapes();
        link();
        better();
        day();
        keep();
        back();
        count();
        System.out.println(calls + " answers, " + wrong + " wrong");
        if (wrong != 0) {
            System.exit(1);
        }
    }

    private static void due(String call, int got, int want) {
        calls++;
        if (got != want) {
            wrong++;
            System.out.println("promise " + promise + ": " + call + " answered " + got + ", due is " + want);
        }
    }

    private static void writeAll(ShiftedShapes x, String text) {
        x.wipe();
        for (int i = 0; i < text.length(); i++) {
            due("write of " + text, x.write(text.charAt(i)), i + 1);
        }
    }

    private static ShiftedShapes laid(String text) {
        ShiftedShapes x = new ShiftedShapes();
        writeAll(x, text);
        if (x.lay() < 1) {
            due("lay of " + text, x.fault(), NONE);
        }
        return x;
    }

    private static void notesAre(String when, ShiftedShapes x, int... timesAndPitches) {
        due(when + ", count(0)", x.count(0), timesAndPitches.length / 2);
        for (int i = 0; i < timesAndPitches.length / 2; i++) {
            due(when + ", note(" + i + ", 0)", x.note(i, 0), timesAndPitches[2 * i]);
            due(when + ", note(" + i + ", 1)", x.note(i, 1), timesAndPitches[2 * i + 1]);
        }
    }

    private static void newObject() {
        promise = 1;
        ShiftedShapes x = new ShiftedShapes();
        due("count(0)", x.count(0), 13);
        due("count(1)", x.count(1), 0);
        due("count(2)", x.count(2), 0);
        due("count(3)", x.count(3), 0);
        due("count(4)", x.count(4), 0);
        for (int n = 0; n < 13; n++) {
            due("note(" + n + ", 0)", x.note(n, 0), FIRST_TIMES[n]);
            due("note(" + n + ", 1)", x.note(n, 1), FIRST_PITCHES[n]);
        }
        due("undo()", x.undo(), NO);
        due("back()", x.back(), NO);
        due("fault()", x.fault(), NONE);
        due("BAD", ShiftedShapes.BAD, BAD);
        due("NO", ShiftedShapes.NO, NO);
        due("FULL", ShiftedShapes.FULL, FULL);
        due("NONE", ShiftedShapes.NONE, NONE);
        x.put(0, 0);
        due("another object's count(0)", new ShiftedShapes().count(0), 13);
    }

    private static void write() {
        promise = 2;
        ShiftedShapes x = new ShiftedShapes();
        for (int letter : new int[] {31, 127, 0, -1, 110 + 256, LEAST, MOST}) {
            due("write(" + letter + ")", x.write(letter), BAD);
        }
        due("count(4)", x.count(4), 0);
        due("write(32)", x.write(32), 1);
        due("write(126)", x.write(126), 2);
        for (int i = 3; i <= 200; i++) {
            due("write(59)", x.write(59), i);
        }
        due("the 201st write(59)", x.write(59), FULL);
        due("write(31) when full", x.write(31), BAD);
        due("count(4)", x.count(4), 200);
    }

    private static void wipe() {
        promise = 3;
        ShiftedShapes x = new ShiftedShapes();
        due("wipe()", x.wipe(), 0);
        writeAll(x, FOUR);
        due("wipe()", x.wipe(), FOUR.length());
        due("count(4)", x.count(4), 0);
        due("wipe()", x.wipe(), 0);
        due("write(110)", x.write(110), 1);
        due("count(0)", x.count(0), 13);
        for (int i = 2; i <= 200; i++) {
            x.write(110);
        }
        due("wipe() when full", x.wipe(), 200);
        due("write(110)", x.write(110), 1);
    }

    private static void fault() {
        promise = 4;
        String[] sound = {"", "n0,0;", "n19,11;", "n00,00;", "n09,01;m02;", "m0;m1;m2;", "m0;", FOURTEEN,
            "n5,5;n0,0;", FOURTEEN + "m1;", "n1,10;n11,0;n1,1;"};
        for (String text : sound) {
            faultIs(text, NONE);
        }
        String[] faultyFromTheFirst = {"n", "n0", "n0,", "n0,0", "n,0;", "n0,;", "n0;", "n0,0,0;", "n000,0;", "n0,000;",
            "n20,0;", "n0,12;", "n99,0;", "n0,99;", "n-1,0;", "n0, 0;", " n0,0;", "N0,0;", "x", ";", ",", "0", "m", "m0",
            "m;", "m3;", "m12;", "m99;", "m000;", "m0,0;", "m 0;", "nn0,0;", "n0;0;", "n0.0;", "n0,0:", "M0;", "n0,0m0;"};
        for (String text : faultyFromTheFirst) {
            faultIs(text, 0);
            faultIs(FOUR + text, FOUR.length());
        }
        faultIs("n0,0;n0,0;", 5);
        faultIs("n0,0;m1;n00,00;n1,1;", 8);
        faultIs("n0,0; ", 5);
        faultIs("n0,0;;", 5);
        faultIs("n0,0;n1,1", 5);
        faultIs("n0,0;x;m9;", 5);
        faultIs(FOURTEEN + "n0,0;", FOURTEEN.length());
        faultIs(FOURTEEN + "m0;n0,0;", FOURTEEN.length() + 3);
        ShiftedShapes x = new ShiftedShapes();
        writeAll(x, "n3,3;");
        x.fault();
        due("count(0) behind fault()", x.count(0), 13);
        due("count(4) behind fault()", x.count(4), 5);
    }

    private static void faultIs(String text, int want) {
        ShiftedShapes x = new ShiftedShapes();
        writeAll(x, text);
        due("fault() of " + text, x.fault(), want);
        if (want != NONE) {
            due("lay() of " + text, x.lay(), NO);
            due("count(0)", x.count(0), 13);
        }
    }

    private static void lay() {
        promise = 5;
        ShiftedShapes x = new ShiftedShapes();
        x.put(0, 0);
        x.mode(2);
        x.keep();
        due("lay() of nothing", x.lay(), NO);
        writeAll(x, "m1;");
        due("lay() of m1;", x.lay(), NO);
        writeAll(x, "m1;n0,0;n0");
        due("lay() of m1;n0,0;n0", x.lay(), NO);
        due("count(0) as before", x.count(0), 14);
        due("count(1) as before", x.count(1), 2);
        due("count(2) as before", x.count(2), 2);
        due("count(3) as before", x.count(3), 1);
        writeAll(x, "m1;n5,3;n0,7;m0;n5,2;m2;m1;");
        due("lay()", x.lay(), 3);
        notesAre("laid", x, 0, 7, 5, 2, 5, 3);
        due("count(1)", x.count(1), 1);
        due("count(2)", x.count(2), 0);
        due("count(3)", x.count(3), 0);
        due("count(4)", x.count(4), 27);
        due("undo()", x.undo(), NO);
        due("back()", x.back(), NO);
        x.take(0);
        due("lay() of the same text", x.lay(), 3);
        due("count(2)", x.count(2), 0);
        writeAll(x, "n6,6;");
        due("lay()", x.lay(), 1);
        due("count(1), 0 without", x.count(1), 0);
        writeAll(x, FOURTEEN);
        due("lay() of 14", x.lay(), 14);
    }

    private static void note() {
        promise = 6;
        ShiftedShapes x = laid("n19,11;n0,5;n19,0;n7,11;");
        notesAre("laid", x, 0, 5, 7, 11, 19, 0, 19, 11);
        due("note(4, 0)", x.note(4, 0), BAD);
        due("note(-1, 0)", x.note(-1, 0), BAD);
        due("note(0, 2)", x.note(0, 2), BAD);
        due("note(0, -1)", x.note(0, -1), BAD);
        due("note(MOST, 0)", x.note(MOST, 0), BAD);
        due("note(LEAST, LEAST)", x.note(LEAST, LEAST), BAD);
        due("note(13, 1)", x.note(13, 1), BAD);
        due("note(14, 1)", x.note(14, 1), BAD);
    }

    private static void put() {
        promise = 7;
        ShiftedShapes x = laid("n5,5;");
        due("put(5, 6)", x.put(5, 6), 1);
        due("put(5, 4)", x.put(5, 4), 0);
        due("put(0, 11)", x.put(0, 11), 0);
        due("put(19, 0)", x.put(19, 0), 4);
        notesAre("put", x, 0, 11, 5, 4, 5, 5, 5, 6, 19, 0);
        due("put(5, 5)", x.put(5, 5), NO);
        int[][] bad = {{-1, 0}, {20, 0}, {0, -1}, {0, 12}, {MOST, 0}, {0, LEAST}, {4, 17}, {6, -7}};
        for (int[] b : bad) {
            due("put(" + b[0] + ", " + b[1] + ")", x.put(b[0], b[1]), BAD);
        }
        due("count(2)", x.count(2), 4);
        ShiftedShapes full = laid(FOURTEEN);
        due("put(0, 0) on 14", full.put(0, 0), FULL);
        due("put(1, 0) on 14", full.put(1, 0), NO);
        due("put(20, 0) on 14", full.put(20, 0), BAD);
        due("count(2)", full.count(2), 0);
    }

    private static void take() {
        promise = 8;
        ShiftedShapes x = laid(FOUR);
        due("take(4)", x.take(4), BAD);
        due("take(-1)", x.take(-1), BAD);
        due("take(MOST)", x.take(MOST), BAD);
        due("count(2)", x.count(2), 0);
        due("take(1)", x.take(1), 3);
        notesAre("taken", x, 0, 0, 4, 2, 5, 3);
        due("take(2)", x.take(2), 2);
        due("take(0)", x.take(0), 1);
        notesAre("taken", x, 4, 2);
        due("take(0), the only one", x.take(0), NO);
        due("take(1), none such", x.take(1), BAD);
        due("count(2)", x.count(2), 3);
    }

    private static void shift() {
        promise = 9;
        ShiftedShapes x = laid(FOUR);
        due("shift(0, 4, 1)", x.shift(0, 4, 1), 1);
        notesAre("shifted", x, 1, 1, 4, 1, 4, 2, 5, 3);
        due("shift(1, 0, 1), there is one", x.shift(1, 0, 1), NO);
        due("shift(3, -5, -3)", x.shift(3, -5, -3), 0);
        due("shift(0, 19, 11)", x.shift(0, 19, 11), 3);
        due("shift(3, -19, -11)", x.shift(3, -19, -11), 0);
        notesAre("shifted", x, 0, 0, 1, 1, 4, 1, 4, 2);
        due("count(2)", x.count(2), 4);
        int[][] bad = {{0, 0, 0}, {4, 1, 1}, {-1, 1, 1}, {0, -1, 0}, {0, 0, -1}, {0, 20, 0}, {0, 0, 12}, {1, 19, 0},
            {1, 0, 11}, {0, MOST, 0}, {0, 0, LEAST}, {1, MOST, MOST}, {0, LEAST, 1}, {0, 1, -12}, {0, 1, 12}};
        for (int[] b : bad) {
            due("shift(" + b[0] + ", " + b[1] + ", " + b[2] + ")", x.shift(b[0], b[1], b[2]), BAD);
        }
        due("count(2)", x.count(2), 4);
        shiftIsJustInEachMode();
    }

    private static void shiftIsJustInEachMode() {
        ShiftedShapes x = laid("m1;n3,5;");
        for (int e = -12; e < 0; e++) {
            due("shift(0, 0, " + e + ") in mode round", x.shift(0, 0, e), BAD);
            due("shift(0, 1, " + e + ") in mode round", x.shift(0, 1, e), BAD);
        }
        due("shift(0, 0, 0) in mode round", x.shift(0, 0, 0), BAD);
        due("shift(0, 0, 7) in mode round, beyond", x.shift(0, 0, 7), BAD);
        due("shift(0, 0, 12) in mode round", x.shift(0, 0, 12), BAD);
        due("count(2), nothing was shifted", x.count(2), 0);
        notesAre("as before", x, 3, 5);
        due("shift(0, -3, 6) in mode round", x.shift(0, -3, 6), 0);
        due("shift(0, 1, 0) in mode round", x.shift(0, 1, 0), 0);
        due("shift(0, 0, 1) in mode round, beyond", x.shift(0, 0, 1), BAD);
        notesAre("shifted", x, 1, 11);
        x.mode(2);
        due("shift(0, 0, -11) in mode near", x.shift(0, 0, -11), 0);
        x.mode(1);
        due("shift(0, 0, 11) in mode round", x.shift(0, 0, 11), 0);
        x.mode(0);
        due("shift(0, 0, -11) in mode just", x.shift(0, 0, -11), 0);
        notesAre("shifted", x, 1, 0);
        ShiftedShapes near = laid("m2;n3,5;n3,7;");
        due("shift(0, 0, 1) in mode near", near.shift(0, 0, 1), 0);
        due("shift(0, 0, 1) in mode near", near.shift(0, 0, 1), NO);
        notesAre("shifted", near, 3, 6, 3, 7);
    }

    private static void shiftAll() {
        promise = 10;
        ShiftedShapes x = laid(FOUR);
        due("shiftAll(14, 8)", x.shiftAll(14, 8), 4);
        notesAre("shifted", x, 14, 8, 15, 9, 18, 10, 19, 11);
        int[][] bad = {{0, 0}, {1, 0}, {0, 1}, {-15, 0}, {0, -9}, {20, 0}, {-20, 0}, {0, 12}, {0, -12}, {MOST, 0}, {0, LEAST},
            {-1, 11}, {LEAST, LEAST}, {-14, 1}};
        for (int[] b : bad) {
            due("shiftAll(" + b[0] + ", " + b[1] + ")", x.shiftAll(b[0], b[1]), BAD);
        }
        notesAre("as before", x, 14, 8, 15, 9, 18, 10, 19, 11);
        due("count(2)", x.count(2), 1);
        due("shiftAll(-14, -8)", x.shiftAll(-14, -8), 4);
        notesAre("shifted back", x, 0, 0, 1, 1, 4, 2, 5, 3);
        due("count(2)", x.count(2), 2);
        x.mode(1);
        due("shiftAll(0, 9) in mode round", x.shiftAll(0, 9), BAD);
        due("shiftAll(0, 8) in mode round", x.shiftAll(0, 8), 4);
        due("shiftAll(0, 0) in mode round", x.shiftAll(0, 0), BAD);
        due("shiftAll(1, -8) in mode round", x.shiftAll(1, -8), BAD);
        due("shiftAll(0, -1) in mode round", x.shiftAll(0, -1), BAD);
        due("shiftAll(1, 0) in mode round", x.shiftAll(1, 0), 4);
        notesAre("shifted", x, 1, 8, 2, 9, 5, 10, 6, 11);
        due("count(2), two acts more and the mode", x.count(2), 5);
        x.mode(2);
        due("shiftAll(-1, -8) in mode near", x.shiftAll(-1, -8), 4);
        notesAre("shifted", x, 0, 0, 1, 1, 4, 2, 5, 3);
    }

    private static void mode() {
        promise = 11;
        ShiftedShapes x = laid(FOUR);
        due("mode(0)", x.mode(0), NO);
        due("mode(3)", x.mode(3), BAD);
        due("mode(-1)", x.mode(-1), BAD);
        due("mode(MOST)", x.mode(MOST), BAD);
        due("count(2)", x.count(2), 0);
        due("mode(2)", x.mode(2), 0);
        due("mode(1)", x.mode(1), 2);
        due("mode(1)", x.mode(1), NO);
        due("mode(0)", x.mode(0), 1);
        due("count(2)", x.count(2), 3);
        notesAre("as before", x, 0, 0, 1, 1, 4, 2, 5, 3);
    }

    private static void undo() {
        promise = 12;
        ShiftedShapes x = laid("n1,1;n2,2;");
        due("undo()", x.undo(), NO);
        x.put(0, 5);
        x.take(1);
        x.shift(0, 3, 1);
        x.shiftAll(1, 1);
        x.mode(2);
        notesAre("acted", x, 3, 3, 4, 7);
        due("undo() of mode", x.undo(), 4);
        due("count(1)", x.count(1), 0);
        due("undo() of shiftAll", x.undo(), 3);
        notesAre("undone", x, 2, 2, 3, 6);
        due("undo() of shift", x.undo(), 2);
        notesAre("undone", x, 0, 5, 2, 2);
        due("undo() of take", x.undo(), 1);
        notesAre("undone", x, 0, 5, 1, 1, 2, 2);
        due("undo() of put", x.undo(), 0);
        notesAre("undone", x, 1, 1, 2, 2);
        due("undo()", x.undo(), NO);
        undoReachesEight();
        undoLeavesRefusals();
    }

    private static void undoReachesEight() {
        ShiftedShapes x = laid("n0,0;");
        for (int i = 1; i <= 10; i++) {
            x.shift(0, 1, 0);
            due("count(2) behind act " + i, x.count(2), Math.min(i, 8));
        }
        for (int left = 7; left >= 0; left--) {
            due("undo()", x.undo(), left);
            due("note(0, 0)", x.note(0, 0), left + 2);
        }
        due("undo()", x.undo(), NO);
        due("note(0, 0)", x.note(0, 0), 2);
        x.mode(1);
        due("undo()", x.undo(), 0);
    }

    private static void undoLeavesRefusals() {
        ShiftedShapes x = laid("n0,0;n0,1;");
        x.mode(1);
        x.put(0, 0);
        x.put(0, 12);
        x.take(2);
        x.shift(0, 0, 1);
        x.shiftAll(-1, 0);
        x.mode(1);
        x.day(1, 20, 0);
        x.better(0);
        x.keep();
        due("count(2)", x.count(2), 1);
        due("undo()", x.undo(), 0);
        due("count(1)", x.count(1), 0);
        due("count(3)", x.count(3), 1);
    }

    private static void largest() {
        promise = 13;
        ShiftedShapes x = laid(FIVE);
        due("largest(0, 0)", x.largest(0, 0), 31);
        due("largest(1, 1)", x.largest(1, 1), 5);
        due("largest(-1, -1)", x.largest(-1, -1), 10);
        due("largest(4, 2)", x.largest(4, 2), 3);
        due("largest(3, 1)", x.largest(3, 1), 2);
        due("largest(10, 11)", x.largest(10, 11), 1);
        due("largest(-10, -11)", x.largest(-10, -11), 16);
        due("largest(1, 0)", x.largest(1, 0), 0);
        due("largest(19, 11)", x.largest(19, 11), 0);
        due("largest(-19, -11)", x.largest(-19, -11), 0);
        int[][] bad = {{20, 0}, {-20, 0}, {0, 12}, {0, -12}, {MOST, 0}, {0, LEAST}, {1, 35}};
        for (int[] b : bad) {
            due("largest(" + b[0] + ", " + b[1] + ")", x.largest(b[0], b[1]), BAD);
        }
        x.mode(1);
        due("largest(0, -1) round", x.largest(0, -1), BAD);
        due("largest(0, 12) round", x.largest(0, 12), BAD);
        due("largest(-10, 1) round", x.largest(-10, 1), 16);
        due("largest(-1, 11) round", x.largest(-1, 11), 10);
        x.mode(2);
        due("largest(0, 1) near, each meets itself", x.largest(0, 1), 31);
        due("largest(0, -1) near", x.largest(0, -1), 31);
        due("largest(0, 2) near", x.largest(0, 2), 0);
        due("largest(1, 0) near", x.largest(1, 0), 5);
        due("largest(1, 2) near", x.largest(1, 2), 5);
        due("largest(1, 3) near", x.largest(1, 3), 0);
        due("largest(4, 1) near", x.largest(4, 1), 3);
    }

    private static void meets() {
        promise = 14;
        ShiftedShapes x = laid("n0,5;n3,4;n3,6;n4,11;");
        due("meets(0, 3, -1)", x.meets(0, 3, -1), 1);
        due("meets(0, 3, 0)", x.meets(0, 3, 0), NONE);
        due("meets(0, 3, 1)", x.meets(0, 3, 1), 2);
        due("meets(3, -4, -6)", x.meets(3, -4, -6), 0);
        due("meets(2, 0, 0)", x.meets(2, 0, 0), 2);
        due("meets(3, 19, 11)", x.meets(3, 19, 11), NONE);
        int[][] bad = {{4, 0, 0}, {-1, 0, 0}, {0, 20, 0}, {0, -20, 0}, {0, 0, 12}, {0, 0, -12}, {MOST, 0, 0}, {0, LEAST, 0},
            {0, 0, MOST}};
        for (int[] b : bad) {
            due("meets(" + b[0] + ", " + b[1] + ", " + b[2] + ")", x.meets(b[0], b[1], b[2]), BAD);
        }
        x.mode(1);
        due("meets(0, 3, 11) round", x.meets(0, 3, 11), 1);
        due("meets(3, -4, 6) round", x.meets(3, -4, 6), 0);
        due("meets(3, -1, 5) round", x.meets(3, -1, 5), 1);
        due("meets(3, -1, 6) round", x.meets(3, -1, 6), NONE);
        due("meets(0, 3, -1) round", x.meets(0, 3, -1), BAD);
        x.mode(2);
        int[][] near = {{0, 3, 0, 1}, {0, 3, 1, 2}, {0, 3, -1, 1}, {0, 3, 2, 2}, {0, 3, -2, 1}, {0, 3, 3, NONE},
            {0, 3, -3, NONE}, {3, 0, 1, 3}, {3, 0, 2, NONE}, {1, 0, 1, 1}, {1, 0, 2, 2}, {1, 0, 3, 2}, {2, 0, -1, 1}, {2, 0, 1, 2}, {0, 4, 7, 3},
            {0, 4, 5, 3}, {0, 4, 4, NONE}};
        for (int[] m : near) {
            due("meets(" + m[0] + ", " + m[1] + ", " + m[2] + ") near", x.meets(m[0], m[1], m[2]), m[3]);
        }
    }

    private static void shapeIs(ShiftedShapes x, int k, int set, int places, int cover, int gain) {
        due("shape(" + k + ", 0)", x.shape(k, 0), set);
        due("shape(" + k + ", 1)", x.shape(k, 1), places);
        due("shape(" + k + ", 2)", x.shape(k, 2), cover);
        due("shape(" + k + ", 3)", x.shape(k, 3), gain + 100);
    }

    private static void shape() {
        promise = 15;
        ShiftedShapes x = laid(FIVE);
        shapeIs(x, 0, 5, 2, 15, 1);
        shapeIs(x, 1, 3, 2, 15, 1);
        due("shape(2, 0)", x.shape(2, 0), BAD);
        due("shape(-1, 0)", x.shape(-1, 0), BAD);
        due("shape(MOST, 0)", x.shape(MOST, 0), BAD);
        due("shape(0, 4)", x.shape(0, 4), BAD);
        due("shape(0, -1)", x.shape(0, -1), BAD);
        shapesOfOneTime();
        shapesOfFourInARow();
        shapesNear();
    }

    private static void shapesOfOneTime() {
        ShiftedShapes x = laid("n7,0;n7,1;n7,6;n7,7;");
        shapeIs(x, 0, 5, 2, 15, 1);
        shapeIs(x, 1, 3, 2, 15, 1);
        due("shapes(0)", x.shapes(0), 2);
        x.mode(1);
        shapeIs(x, 0, 5, 4, 15, -1);
        shapeIs(x, 1, 10, 4, 15, -1);
        shapeIs(x, 2, 15, 2, 15, -1);
        due("shapes(0)", x.shapes(0), 3);
    }

    private static void shapesOfFourInARow() {
        ShiftedShapes x = laid("n0,0;n1,1;n2,2;n3,3;");
        shapeIs(x, 0, 7, 2, 15, 0);
        shapeIs(x, 1, 3, 3, 15, 0);
        due("shapes(0)", x.shapes(0), 2);
    }

    private static void shapesNear() {
        ShiftedShapes x = laid("m2;n0,5;n3,6;");
        shapeIs(x, 0, 3, 3, 3, -2);
        due("shapes(0)", x.shapes(0), 1);
    }

    private static void place() {
        promise = 16;
        ShiftedShapes x = laid(FIVE);
        due("place(5, -1)", x.place(5, -1), 2);
        due("place(5, 0)", x.place(5, 0), 5050);
        due("place(5, 1)", x.place(5, 1), 5151);
        due("place(5, 2)", x.place(5, 2), NONE);
        due("place(5, MOST)", x.place(5, MOST), NONE);
        due("place(10, 0)", x.place(10, 0), 4949);
        due("place(10, 1)", x.place(10, 1), 5050);
        due("place(31, -1)", x.place(31, -1), 1);
        due("place(16, -1)", x.place(16, -1), 5);
        due("place(16, 0)", x.place(16, 0), 4039);
        due("place(16, 3)", x.place(16, 3), 4542);
        due("place(16, 4)", x.place(16, 4), 5050);
        due("place(16, 5)", x.place(16, 5), NONE);
        due("place(0, 0)", x.place(0, 0), BAD);
        due("place(32, 0)", x.place(32, 0), BAD);
        due("place(33, -1)", x.place(33, -1), BAD);
        due("place(-1, -1)", x.place(-1, -1), BAD);
        due("place(LEAST, 0)", x.place(LEAST, 0), BAD);
        due("place(1, -2)", x.place(1, -2), BAD);
        due("place(1, LEAST)", x.place(1, LEAST), BAD);
        ShiftedShapes round = laid("m1;n0,10;n1,11;n4,0;n5,1;");
        due("place(3, 1) round", round.place(3, 1), 5452);
        due("place(12, 0) round", round.place(12, 0), 4660);
        due("place(12, -1) round", round.place(12, -1), 2);
        round.mode(0);
        due("place(3, 1) just", round.place(3, 1), 5440);
        ShiftedShapes near = laid("m2;n0,11;n19,0;");
        due("place(1, -1) near", near.place(1, -1), 5);
        due("place(1, 0) near", near.place(1, 0), 5049);
        due("place(1, 2) near", near.place(1, 2), 5051);
        due("place(1, 3) near", near.place(1, 3), 6939);
        due("place(1, 4) near", near.place(1, 4), 6940);
    }

    private static void best() {
        promise = 17;
        ShiftedShapes x = laid(FIVE);
        due("best(0), the first of two", x.best(0), 0);
        due("best(1)", x.best(1), 101);
        due("best(2)", x.best(2), BAD);
        due("best(-1)", x.best(-1), BAD);
        // by (1,0) notes 0 1 2 with gain 0 (cover 4 notes), by (2,0) notes 0 1 with gain 0 (cover 4 notes)
        ShiftedShapes row = laid("n0,0;n1,0;n2,0;n3,0;");
        due("best(0) of a row", row.best(0), 0);
        due("best(1) of a row", row.best(1), 100);
        due("best(1) of none", laid("n0,0;n1,5;").best(1), NONE);
        due("best(0) of none", laid("n0,0;n1,5;").best(0), NONE);
        due("best(0) of one", laid("n0,0;").best(0), NONE);
        due("best(2) of none", laid("n0,0;").best(2), BAD);
        bestByCover();
    }

    /** Two shapes of the same gain 0: three notes in a row at first, behind them four in a row. */
    private static void bestByCover() {
        ShiftedShapes x = laid("n0,0;n1,0;n2,0;n8,3;n11,10;n14,5;n17,0;");
        due("gain of shape 0", x.shape(0, 3), 100);
        due("cover of shape 0", x.shape(0, 2), 7);
        due("best(1)", x.best(1), 100);
        due("best(0)", x.best(0), 0);
        ShiftedShapes y = laid("n0,0;n1,0;n2,0;n5,11;n8,9;n11,7;n14,5;");
        due("gain of shape 0", y.shape(0, 3), 100);
        due("cover of shape 0", y.shape(0, 2), 7);
        due("notes of shape 1", y.shape(1, 0), 56);
        due("gain of shape 1", y.shape(1, 3), 100);
        due("cover of shape 1", y.shape(1, 2), 120);
        due("best(0), the greater cover", y.best(0), 1);
    }

    private static void parted() {
        promise = 18;
        ShiftedShapes x = laid(FIVE);
        due("parted(0, 0)", x.parted(0, 0), 5);
        due("parted(0, 1)", x.parted(0, 1), 2);
        due("parted(0, 2)", x.parted(0, 2), 15);
        due("parted(1, 0)", x.parted(1, 0), NONE);
        due("parted(MOST, 2)", x.parted(MOST, 2), NONE);
        due("parted(-1, 0)", x.parted(-1, 0), BAD);
        due("parted(0, 3)", x.parted(0, 3), BAD);
        due("parted(0, -1)", x.parted(0, -1), BAD);
        due("parted(9, 3)", x.parted(9, 3), BAD);
        ShiftedShapes two = laid(TWO_PARTS);
        due("parted(0, 0)", two.parted(0, 0), 2 + 16);
        due("parted(0, 1)", two.parted(0, 1), 3);
        due("parted(0, 2)", two.parted(0, 2), 7 + 8 * 7);
        due("parted(1, 0)", two.parted(1, 0), 64 + 256);
        due("parted(1, 1)", two.parted(1, 1), 2);
        due("parted(1, 2)", two.parted(1, 2), 64 * 15);
        due("parted(2, 0)", two.parted(2, 0), NONE);
        due("parted(0, 0) of no gain", laid("n0,0;n1,0;n2,0;").parted(0, 0), NONE);
        due("parted(0, 0) of one", laid("n0,0;").parted(0, 0), NONE);
    }

    /** Notes 1 4 stand again as 0 3 and 2 5 (the first shift is 1,-3); notes 6 8 again as 7 9. */
    private static final String TWO_PARTS = "n0,0;n1,5;n2,2;n5,1;n6,6;n7,3;n9,8;n10,11;n14,4;n15,7;";

    private static void parting() {
        promise = 19;
        ShiftedShapes x = laid(FIVE);
        due("parting(0)", x.parting(0), 1);
        due("parting(1)", x.parting(1), 16);
        due("parting(2)", x.parting(2), 4);
        due("parting(3)", x.parting(3), BAD);
        due("parting(-1)", x.parting(-1), BAD);
        ShiftedShapes two = laid(TWO_PARTS);
        due("parting(0)", two.parting(0), 2);
        due("parting(1)", two.parting(1), 0);
        due("parting(2)", two.parting(2), 4 + 3);
        ShiftedShapes none = laid("n0,0;n1,0;n2,0;");
        due("parting(0) of gain 0", none.parting(0), 0);
        due("parting(1) of gain 0", none.parting(1), 7);
        due("parting(2) of gain 0", none.parting(2), 3);
    }

    private static void shapes() {
        promise = 20;
        ShiftedShapes x = laid(FIVE);
        due("shapes(0)", x.shapes(0), 2);
        due("shapes(1)", x.shapes(1), 1);
        due("shapes(2)", x.shapes(2), 16);
        due("shapes(3)", x.shapes(3), BAD);
        due("shapes(-1)", x.shapes(-1), BAD);
        ShiftedShapes none = laid("n0,0;n1,5;");
        due("shapes(0) of none", none.shapes(0), 0);
        due("shapes(1) of none", none.shapes(1), 0);
        due("shapes(2) of none", none.shapes(2), 3);
        // three in a row thrice, none of them akin to another: each has a shape of its own
        ShiftedShapes rows = laid("n0,0;n1,0;n2,0;n8,3;n10,4;n12,5;");
        due("shapes(0) of two rows", rows.shapes(0), 2);
        due("shapes(1) of two rows", rows.shapes(1), 2);
        due("shapes(2) of two rows", rows.shapes(2), 0);
    }

    private static void link() {
        promise = 21;
        ShiftedShapes x = laid("n0,9;n1,11;n4,0;n5,2;");
        due("link(0, 1, 0)", x.link(0, 1, 0), 51);
        due("link(0, 1, 1)", x.link(0, 1, 1), 52);
        due("link(0, 1, 2)", x.link(0, 1, 2), 2);
        due("link(0, 2, 1)", x.link(0, 2, 1), 41);
        due("link(2, 0, 0)", x.link(2, 0, 0), 46);
        due("link(2, 0, 1)", x.link(2, 0, 1), 59);
        due("link(0, 3, 2)", x.link(0, 3, 2), 1);
        int[][] bad = {{0, 0, 0}, {0, 4, 0}, {4, 0, 0}, {-1, 0, 0}, {0, -1, 0}, {0, 1, 3}, {0, 1, -1}, {MOST, 1, 0},
            {1, LEAST, 0}};
        for (int[] b : bad) {
            due("link(" + b[0] + ", " + b[1] + ", " + b[2] + ")", x.link(b[0], b[1], b[2]), BAD);
        }
        x.mode(1);
        due("link(0, 2, 1) round", x.link(0, 2, 1), 53);
        due("link(0, 2, 2) round", x.link(0, 2, 2), 2);
        due("link(2, 0, 1) round", x.link(2, 0, 1), 59);
        due("link(1, 0, 1) round", x.link(1, 0, 1), 60);
        due("link(1, 0, 2) round", x.link(1, 0, 2), 2);
        ShiftedShapes near = laid("n0,5;n1,6;n4,5;n5,7;");
        due("link(0, 1, 2) just", near.link(0, 1, 2), 1);
        near.mode(2);
        due("link(0, 1, 2) near", near.link(0, 1, 2), 2);
        due("link(0, 1, 1) near", near.link(0, 1, 1), 51);
    }

    private static void better() {
        promise = 22;
        // with three notes only three in a row make a shape, of gain 0
        ShiftedShapes x = laid("n10,5;n12,6;");
        due("better(0)", x.better(0), 804);
        due("better(1)", x.better(1), 100);
        due("better(2)", x.better(2), BAD);
        due("better(-1)", x.better(-1), BAD);
        due("count(0)", x.count(0), 2);
        due("count(2)", x.count(2), 0);
        ShiftedShapes later = laid("n0,5;n2,6;");
        due("better(0), no room ahead", later.better(0), 407);
        ShiftedShapes between = laid("n0,5;n2,7;");
        due("better(0), between", between.better(0), 106);
        between.put(1, 6);
        due("better(0) changes with the piece", between.better(0) == 106 ? 1 : 0, 0);
        between.undo();
        due("better(0) again", between.better(0), 106);
        ShiftedShapes one = laid("n19,11;");
        due("better(0) of one", one.better(0), 0);
        due("better(1) of one", one.better(1), NONE);
        ShiftedShapes first = laid("n0,0;n0,2;n19,11;");
        due("better(0), two and two alike", first.better(0), 1909);
        due("better(1), two and two alike", first.better(1), 101);
        ShiftedShapes corner = laid("n0,0;");
        due("better(0) beside 0,0", corner.better(0), 1);
        ShiftedShapes full = laid(FOURTEEN);
        due("better(0) of 14", full.better(0), NONE);
        due("better(1) of 14", full.better(1), NONE);
        due("better(2) of 14", full.better(2), BAD);
    }

    private static void day() {
        promise = 23;
        // by z 0 the draws are 1 (time 0, pitch 0), then 41487 (time 5, pitch 6)
        due("day(0, 1, 0): the only one stays", laid("n0,0;").day(0, 1, 0), 1);
        due("day(0, 2, 0): then one is put", laid("n0,0;").day(0, 2, 0), 2);
        due("day(0, 1, 0): one is taken", laid("n0,0;n1,1;").day(0, 1, 0), 1);
        due("day(0, 1, 0): one is put", laid("n1,1;").day(0, 1, 0), 2);
        due("day(0, 2, 0): taken, taken", laid("n0,0;n5,6;n1,1;").day(0, 2, 0), 1);
        due("day(0, 1, 0): no room", laid(FOURTEEN).day(0, 1, 0), 14);
        ShiftedShapes x = laid("n1,1;n4,2;n5,3;");
        due("day(0, 1, 0)", x.day(0, 1, 0), 4);
        due("day(0, 1, 1)", x.day(0, 1, 1), 2);
        due("day(0, 1, 2)", x.day(0, 1, 2), 3);
        notesAre("as before", x, 1, 1, 4, 2, 5, 3);
        due("count(2)", x.count(2), 0);
        due("shapes(0)", x.shapes(0), 0);
        int[][] bad = {{-1, 1, 0}, {10000, 1, 0}, {0, 0, 0}, {0, 21, 0}, {0, 1, 3}, {0, 1, -1}, {LEAST, 1, 0}, {0, MOST, 0}};
        for (int[] b : bad) {
            due("day(" + b[0] + ", " + b[1] + ", " + b[2] + ")", x.day(b[0], b[1], b[2]), BAD);
        }
        // x is 79182082, beyond what an int squares: draw 51303 (time 12, pitch 8), then 32612 (time 16, pitch 7)
        due("day(9999, 1, 0) takes 12,8", laid("n12,8;n1,1;").day(9999, 1, 0), 1);
        due("day(9999, 2, 0) takes 16,7 too", laid("n12,8;n16,7;n1,1;").day(9999, 2, 0), 1);
        due("day(9999, 2, 0) puts both", laid("n1,1;").day(9999, 2, 0), 3);
    }

    private static void keep() {
        promise = 24;
        ShiftedShapes x = laid(FOUR);
        due("keep()", x.keep(), 1);
        due("keep()", x.keep(), 2);
        due("keep()", x.keep(), FULL);
        due("count(3)", x.count(3), 2);
        due("back()", x.back(), 1);
        due("keep()", x.keep(), 2);
        x.lay();
        due("keep() behind lay()", x.keep(), 1);
    }

    private static void back() {
        promise = 25;
        ShiftedShapes x = laid(FOUR);
        due("back()", x.back(), NO);
        x.keep();
        x.mode(2);
        x.take(0);
        x.keep();
        x.put(9, 9);
        x.put(9, 10);
        due("back()", x.back(), 1);
        notesAre("back", x, 1, 1, 4, 2, 5, 3);
        due("count(1)", x.count(1), 2);
        due("count(2)", x.count(2), 0);
        due("undo()", x.undo(), NO);
        x.put(8, 8);
        due("undo() behind back()", x.undo(), 0);
        due("back()", x.back(), 0);
        notesAre("back", x, 0, 0, 1, 1, 4, 2, 5, 3);
        due("count(1)", x.count(1), 0);
        due("shapes(0)", x.shapes(0), 2);
        due("back()", x.back(), NO);
        x.mode(1);
        due("back()", x.back(), NO);
        due("count(2)", x.count(2), 1);
    }

    private static void count() {
        promise = 26;
        ShiftedShapes x = laid("m2;n0,0;n1,1;");
        x.put(3, 3);
        x.put(4, 4);
        x.put(5, 5);
        x.keep();
        due("count(0)", x.count(0), 5);
        due("count(1)", x.count(1), 2);
        due("count(2)", x.count(2), 3);
        due("count(3)", x.count(3), 1);
        due("count(4)", x.count(4), 13);
        due("count(5)", x.count(5), BAD);
        due("count(-1)", x.count(-1), BAD);
        due("count(MOST)", x.count(MOST), BAD);
        due("count(LEAST)", x.count(LEAST), BAD);
    }
}
