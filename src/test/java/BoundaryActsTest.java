/** The boundary cases of the acts and of what can be undone: promises 7 to 12 and the terms they use. */
public final class BoundaryActsTest {
    private static final int BAD = Checks.BAD, NO = Checks.NO, FULL = Checks.FULL;
    private static final int LEAST = Checks.LEAST, MOST = Checks.MOST;

    private static final Checks CHECKS = new Checks();

    /** 14 notes, an act to be undone, a piece kept. */
    private static final Checks.State FULL_PIECE = new Checks.State(Checks.FOURTEEN.substring(5), x -> x.keep(), x -> x.put(1, 0));
    private static final Checks.State ONE_NOTE = new Checks.State("n3,5;n4,6;", x -> x.keep(), x -> x.take(1));
    private static final Checks.State ROUND = new Checks.State("m1;n3,5;n8,7;", x -> x.keep(), x -> x.put(19, 11));
    private static final Checks.State NEAR = new Checks.State("m2;n3,5;n8,7;", x -> x.keep(), x -> x.put(19, 11));

    public static void main(String[] args) {
        placesThatMayBePut();
        putWhereThereIsOne();
        putIntoAFullPiece();
        theNumberOfWhatIsPut();
        notesThatMayBeTaken();
        theOnlyOneIsNotTaken();
        notesThatMayBeShifted();
        howFarOneMayBeShifted();
        notBeyondTimesAndPitches();
        theShiftOfNothing();
        shiftInModeRound();
        shiftToWhereThereIsOne();
        theNumberOfWhatIsShifted();
        howFarAllMayBeShifted();
        allShiftedToTheEdges();
        allShiftedInModeRound();
        modesThatThereAre();
        nothingToUndo();
        theLastEightAreUndone();
        eachActIsUndone();
        refusedActsAreNotUndone();
        whatIsFoundIsUndoneToo();
        whatIsFoundIsOfThePieceAsItStands();
        CHECKS.end();
    }

    private static void due(String call, int got, int want) {
        CHECKS.due(call, got, want);
    }

    private static void putRefused(Checks.State state, int time, int pitch, int want) {
        CHECKS.unchanged(state, "put(" + time + ", " + pitch + ")", x -> x.put(time, pitch), want);
    }

    private static void shiftRefused(Checks.State state, int n, int d, int e, int want) {
        CHECKS.unchanged(state, "shift(" + n + ", " + d + ", " + e + ")", x -> x.shift(n, d, e), want);
    }

    private static void shiftAllRefused(Checks.State state, int d, int e) {
        CHECKS.unchanged(state, "shiftAll(" + d + ", " + e + ")", x -> x.shiftAll(d, e), BAD);
    }

    private static void placesThatMayBePut() {
        CHECKS.sentence("A NOTE has a TIME (0 to 19) and a PITCH (0 to 11); PUT. BAD");
        for (int time = -2; time <= 21; time++) {
            for (int pitch = -2; pitch <= 13; pitch++) {
                boolean within = time >= 0 && time <= 19 && pitch >= 0 && pitch <= 11;
                ShiftedShapes x = Checks.laid("n9,9;");
                boolean there = time == 9 && pitch == 9;
                int number = time < 9 || time == 9 && pitch < 9 ? 0 : 1;
                due("put(" + time + ", " + pitch + ")", x.put(time, pitch), !within ? BAD : there ? NO : number);
                due("count(0)", x.count(0), within && !there ? 2 : 1);
                due("count(2)", x.count(2), within && !there ? 1 : 0);
            }
        }
        int[][] bad = {{-1, 5}, {20, 5}, {5, -1}, {5, 12}, {-1, 12}, {20, -1}, {LEAST, 0}, {MOST, 0}, {0, LEAST}, {0, MOST}};
        for (int[] b : bad) {
            putRefused(Checks.RICH, b[0], b[1], BAD);
        }
    }

    private static void putWhereThereIsOne() {
        CHECKS.sentence("PUT. NO: there is one");
        putRefused(Checks.RICH, 0, 0, NO);
        putRefused(Checks.RICH, 4, 6, NO);
        putRefused(Checks.RICH, 4, 7, NO);
        putRefused(Checks.RICH, 19, 11, NO);
        ShiftedShapes x = Checks.RICH.make();
        due("put(4, 5), beside one", x.put(4, 5), 1);
        due("put(4, 8), beside one", x.put(4, 8), 4);
        due("put(3, 6), beside one", x.put(3, 6), 1);
        // pitch 20 of time 1 is pitch 8 of time 2 where places are counted through: it is BAD all the same
        putRefused(new Checks.State("n2,8;"), 1, 20, BAD);
    }

    private static void putIntoAFullPiece() {
        CHECKS.sentence("FULL: 14");
        ShiftedShapes x = Checks.laid(Checks.FOURTEEN.substring(5));
        due("put(0, 0) on 13", x.put(0, 0), 0);
        due("count(0)", x.count(0), 14);
        due("put(0, 1) on 14", x.put(0, 1), FULL);
        x.take(13);
        due("put(0, 1) on 13 again", x.put(0, 1), 1);
        putRefused(FULL_PIECE, 0, 0, FULL);
        putRefused(FULL_PIECE, 19, 11, FULL);
        CHECKS.sentence("Of several the first: BAD, NO, FULL");
        putRefused(FULL_PIECE, 1, 0, NO);
        putRefused(FULL_PIECE, 2, 1, NO);
        putRefused(FULL_PIECE, 20, 0, BAD);
        putRefused(FULL_PIECE, 0, 12, BAD);
    }

    private static void theNumberOfWhatIsPut() {
        CHECKS.sentence("PUT: its number; they are numbered by TIME, then PITCH");
        ShiftedShapes x = Checks.laid("n5,5;");
        due("put(5, 4)", x.put(5, 4), 0);
        due("put(5, 6)", x.put(5, 6), 2);
        due("put(4, 11)", x.put(4, 11), 0);
        due("put(6, 0)", x.put(6, 0), 4);
        due("put(0, 0)", x.put(0, 0), 0);
        due("put(19, 11)", x.put(19, 11), 6);
        CHECKS.notesAre("put", x, 0, 0, 4, 11, 5, 4, 5, 5, 5, 6, 6, 0, 19, 11);
    }

    private static void notesThatMayBeTaken() {
        CHECKS.sentence("TAKEN: how many are left. BAD");
        for (int n : new int[] {4, 5, 13, 14, -1, -2, LEAST, MOST}) {
            CHECKS.unchanged(Checks.RICH, "take(" + n + ")", x -> x.take(n), BAD);
        }
        ShiftedShapes x = Checks.RICH.make();
        due("take(3), the last", x.take(3), 3);
        due("take(3), none such now", x.take(3), BAD);
        due("take(0), the first", x.take(0), 2);
        CHECKS.notesAre("taken", x, 4, 6, 4, 7);
        ShiftedShapes full = FULL_PIECE.make();
        due("take(14) of 14", full.take(14), BAD);
        due("take(13) of 14", full.take(13), 13);
    }

    private static void theOnlyOneIsNotTaken() {
        CHECKS.sentence("NO: it is the only one");
        ShiftedShapes x = Checks.laid("n3,5;n4,6;");
        due("take(1) of two", x.take(1), 1);
        due("take(0) of one", x.take(0), NO);
        CHECKS.unchanged(ONE_NOTE, "take(0) of one", y -> y.take(0), NO);
        CHECKS.sentence("Of several the first: BAD ahead of NO");
        CHECKS.unchanged(ONE_NOTE, "take(1) of one", y -> y.take(1), BAD);
        CHECKS.unchanged(ONE_NOTE, "take(-1) of one", y -> y.take(-1), BAD);
    }

    private static void notesThatMayBeShifted() {
        CHECKS.sentence("A NOTE is SHIFTED. BAD (NOTES: such as there are)");
        for (int n : new int[] {4, 14, -1, LEAST, MOST}) {
            shiftRefused(Checks.RICH, n, 1, 1, BAD);
        }
        due("shift(3, 0, -1), the last of four", Checks.RICH.make().shift(3, 0, -1), 3);
        due("shift(0, 0, 1), the first", Checks.RICH.make().shift(0, 0, 1), 0);
        due("shift(0, 1, 0), the only one", ONE_NOTE.make().shift(0, 1, 0), 0);
        shiftRefused(ONE_NOTE, 1, 1, 0, BAD);
        due("shift(13, 1, 0), the last of 14", FULL_PIECE.make().shift(13, 1, 0), 13);
        shiftRefused(FULL_PIECE, 14, 1, 0, BAD);
    }

    private static void howFarOneMayBeShifted() {
        CHECKS.sentence("A SHIFT is of d in TIME (-19 to 19) and e in PITCH (-11 to 11)");
        for (int m = 0; m <= 2; m += 2) {
            String mode = "m" + m + ";";
            due("shift(0, 19, 11)", Checks.laid(mode + "n0,0;").shift(0, 19, 11), 0);
            due("shift(0, -19, -11)", Checks.laid(mode + "n19,11;").shift(0, -19, -11), 0);
            due("shift(0, -19, 11)", Checks.laid(mode + "n19,0;").shift(0, -19, 11), 0);
            shiftRefused(new Checks.State(mode + "n0,0;"), 0, 20, 0, BAD);
            shiftRefused(new Checks.State(mode + "n0,0;"), 0, 0, 12, BAD);
            shiftRefused(new Checks.State(mode + "n19,11;"), 0, -20, 0, BAD);
            shiftRefused(new Checks.State(mode + "n19,11;"), 0, 0, -12, BAD);
        }
        int[][] far = {{LEAST, 0}, {MOST, 0}, {0, LEAST}, {0, MOST}, {LEAST, LEAST}, {MOST, MOST}, {1, 12}, {1, -12}, {20, 1}};
        for (int[] f : far) {
            shiftRefused(Checks.RICH, 1, f[0], f[1], BAD);
        }
    }

    /** Of a note in the midst each place of the piece is reached, and none around it. */
    private static void notBeyondTimesAndPitches() {
        CHECKS.sentence("SHIFTED (in each MODE just so, not beyond TIMES and PITCHES as told); BAD (beyond, too)");
        for (int m = 0; m <= 2; m++) {
            for (int d = -10; d <= 12; d++) {
                for (int e = -6; e <= 8; e++) {
                    ShiftedShapes x = Checks.laid("n8,4;m" + m + ";");
                    boolean within = 8 + d >= 0 && 8 + d <= 19 && 4 + e >= 0 && 4 + e <= 11;
                    boolean shift = (d != 0 || e != 0) && (m != 1 || e >= 0);
                    due("shift(0, " + d + ", " + e + ") in mode " + m, x.shift(0, d, e), within && shift ? 0 : BAD);
                    due("note(0, 0)", x.note(0, 0), within && shift ? 8 + d : 8);
                    due("note(0, 1)", x.note(0, 1), within && shift ? 4 + e : 4);
                }
            }
        }
        Checks.State edges = new Checks.State("n3,11;n4,0;", x -> x.put(0, 5), x -> x.put(19, 5));
        shiftRefused(edges, 1, 0, 1, BAD);
        shiftRefused(edges, 2, 0, -1, BAD);
        shiftRefused(edges, 0, -1, 0, BAD);
        shiftRefused(edges, 3, 1, 0, BAD);
    }

    private static void theShiftOfNothing() {
        CHECKS.sentence("BAD (the SHIFT of 0, 0, too)");
        shiftRefused(Checks.RICH, 0, 0, 0, BAD);
        shiftRefused(ROUND, 0, 0, 0, BAD);
        shiftRefused(ONE_NOTE, 0, 0, 0, BAD);
        due("shift(0, 1, 0)", ONE_NOTE.make().shift(0, 1, 0), 0);
        due("shift(0, 0, 1)", ONE_NOTE.make().shift(0, 0, 1), 0);
        due("shift(0, -1, 0)", ONE_NOTE.make().shift(0, -1, 0), 0);
        due("shift(0, 0, -1)", ONE_NOTE.make().shift(0, 0, -1), 0);
        CHECKS.sentence("BAD (the SHIFT of 0, 0, too) of all");
        shiftAllRefused(ONE_NOTE, 0, 0);
        shiftAllRefused(ROUND, 0, 0);
        shiftAllRefused(NEAR, 0, 0);
    }

    private static void shiftInModeRound() {
        CHECKS.sentence("e in PITCH (in MODE ROUND 0 to 11)");
        for (int e = -12; e < 0; e++) {
            shiftRefused(ROUND, 1, 0, e, BAD);
            shiftRefused(ROUND, 1, 1, e, BAD);
        }
        shiftRefused(ROUND, 1, 0, 12, BAD);
        due("shift(1, 1, 0)", ROUND.make().shift(1, 1, 0), 1);
        due("shift(1, 0, 4)", ROUND.make().shift(1, 0, 4), 1);
        due("shift(0, 0, 11)", Checks.laid("m1;n0,0;").shift(0, 0, 11), 0);
        CHECKS.sentence("SHIFTED in each MODE just so: never round");
        shiftRefused(ROUND, 1, 0, 5, BAD);
        shiftRefused(ROUND, 1, 0, 11, BAD);
        shiftRefused(ROUND, 2, -19, 1, BAD);
    }

    private static void shiftToWhereThereIsOne() {
        CHECKS.sentence("A NOTE is SHIFTED. NO: there is one");
        shiftRefused(Checks.RICH, 1, 0, 1, NO);
        shiftRefused(Checks.RICH, 2, 0, -1, NO);
        shiftRefused(Checks.RICH, 0, 19, 11, NO);
        shiftRefused(Checks.RICH, 3, -19, -11, NO);
        shiftRefused(ROUND, 0, 5, 2, NO);
        shiftRefused(FULL_PIECE, 0, 0, 1, NO);
        due("shift(0, 5, 1) in mode near, beside one", NEAR.make().shift(0, 5, 1), 0);
        due("shift(0, 5, 3) in mode near, beside one", NEAR.make().shift(0, 5, 3), 1);
        due("shift(0, 4, 2), ahead of one", NEAR.make().shift(0, 4, 2), 0);
    }

    private static void theNumberOfWhatIsShifted() {
        CHECKS.sentence("A NOTE is SHIFTED: its number then");
        ShiftedShapes x = Checks.laid("n2,2;n4,4;n6,6;");
        due("shift(0, 2, 1), just ahead of one", x.shift(0, 2, 1), 0);
        due("shift(0, 0, 2), just behind it", x.shift(0, 0, 2), 1);
        due("shift(1, 2, 2), just behind the last", x.shift(1, 2, 2), 2);
        CHECKS.notesAre("shifted", x, 4, 4, 6, 6, 6, 7);
        due("shift(2, -6, -7)", x.shift(2, -6, -7), 0);
        CHECKS.notesAre("shifted", x, 0, 0, 4, 4, 6, 6);
    }

    private static void howFarAllMayBeShifted() {
        CHECKS.sentence("A SHIFT is of d in TIME (-19 to 19) and e in PITCH (-11 to 11): of all");
        due("shiftAll(19, 11)", Checks.laid("n0,0;").shiftAll(19, 11), 1);
        due("shiftAll(-19, -11)", Checks.laid("n19,11;").shiftAll(-19, -11), 1);
        int[][] far = {{20, 0}, {-20, 0}, {0, 12}, {0, -12}, {LEAST, 0}, {MOST, 0}, {0, LEAST}, {0, MOST}, {LEAST, MOST}};
        for (int[] f : far) {
            shiftAllRefused(ONE_NOTE, f[0], f[1]);
            shiftAllRefused(NEAR, f[0], f[1]);
        }
        shiftAllRefused(new Checks.State("n0,0;"), 20, 0);
        shiftAllRefused(new Checks.State("n19,11;"), 0, -12);
    }

    /** The earliest and the latest, the lowest and the highest note are four: each of them stops all. */
    private static void allShiftedToTheEdges() {
        CHECKS.sentence("All are SHIFTED: how many. BAD (one that goes beyond, too)");
        Checks.State four = new Checks.State("n3,5;n7,2;n9,8;n14,6;", x -> x.keep(), x -> x.mode(2));
        int[][] within = {{5, 0}, {-3, 0}, {0, 3}, {0, -2}, {5, 3}, {-3, -2}, {5, -2}, {-3, 3}};
        for (int[] w : within) {
            ShiftedShapes x = four.make();
            due("shiftAll(" + w[0] + ", " + w[1] + ")", x.shiftAll(w[0], w[1]), 4);
            CHECKS.notesAre("shifted", x, 3 + w[0], 5 + w[1], 7 + w[0], 2 + w[1], 9 + w[0], 8 + w[1], 14 + w[0], 6 + w[1]);
            due("count(2)", x.count(2), 2);
        }
        int[][] beyond = {{6, 0}, {-4, 0}, {0, 4}, {0, -3}, {6, 3}, {5, 4}, {-4, -2}, {-3, -3}, {1, -3}, {-1, 4}};
        for (int[] b : beyond) {
            shiftAllRefused(four, b[0], b[1]);
        }
        due("shiftAll(17, 0) of 14", Checks.laid(Checks.FOURTEEN).shiftAll(17, 0), 14);
        shiftAllRefused(FULL_PIECE, 18, 0);
        shiftAllRefused(FULL_PIECE, 0, 1);
        CHECKS.sentence("All are SHIFTED: onto one another too");
        ShiftedShapes row = Checks.laid("n1,1;n2,2;n3,3;");
        due("shiftAll(1, 1)", row.shiftAll(1, 1), 3);
        CHECKS.notesAre("shifted", row, 2, 2, 3, 3, 4, 4);
    }

    private static void allShiftedInModeRound() {
        CHECKS.sentence("e in PITCH (in MODE ROUND 0 to 11): of all");
        Checks.State low = new Checks.State("m1;n3,5;n8,7;", x -> x.keep(), x -> x.put(9, 6));
        for (int e = -12; e < 0; e++) {
            shiftAllRefused(low, 0, e);
            shiftAllRefused(low, 1, e);
        }
        due("shiftAll(1, 0)", low.make().shiftAll(1, 0), 3);
        due("shiftAll(0, 4)", low.make().shiftAll(0, 4), 3);
        shiftAllRefused(low, 0, 5);
        shiftAllRefused(low, 0, 11);
        shiftAllRefused(low, 0, 12);
        due("shiftAll(0, 11)", Checks.laid("m1;n0,0;").shiftAll(0, 11), 1);
    }

    private static void modesThatThereAre() {
        CHECKS.sentence("MODE: what it was. BAD; NO: it is so");
        for (int m : new int[] {-1, 3, LEAST, MOST}) {
            CHECKS.unchanged(Checks.RICH, "mode(" + m + ")", x -> x.mode(m), BAD);
        }
        for (int was = 0; was <= 2; was++) {
            Checks.State state = new Checks.State("n3,5;n8,7;m" + was + ";", x -> x.keep(), x -> x.put(0, 0));
            for (int m = 0; m <= 2; m++) {
                int asked = m;
                if (m == was) {
                    CHECKS.unchanged(state, "mode(" + m + ")", x -> x.mode(asked), NO);
                    continue;
                }
                ShiftedShapes x = state.make();
                due("mode(" + m + ")", x.mode(m), was);
                due("count(1)", x.count(1), m);
                due("count(2)", x.count(2), 2);
            }
        }
    }

    private static void nothingToUndo() {
        CHECKS.sentence("UNDONE: how many more can be. NO");
        due("undo() of a new object", new ShiftedShapes().undo(), NO);
        CHECKS.unchanged(new Checks.State("n1,1;n2,2;", x -> x.keep()), "undo() of no act", x -> x.undo(), NO);
        CHECKS.unchanged(new Checks.State("n1,1;n2,2;", x -> x.keep(), x -> x.put(3, 3), x -> x.undo()),
            "undo() behind the only one", x -> x.undo(), NO);
        ShiftedShapes x = Checks.laid("n1,1;n2,2;");
        x.put(3, 3);
        due("undo() of one act", x.undo(), 0);
        due("undo() of none", x.undo(), NO);
        x.put(4, 4);
        x.put(5, 5);
        due("undo() of two acts", x.undo(), 1);
        x.put(6, 6);
        due("count(2), what was undone is no act", x.count(2), 2);
        due("undo()", x.undo(), 1);
        CHECKS.notesAre("undone", x, 1, 1, 2, 2, 4, 4);
        due("undo()", x.undo(), 0);
        CHECKS.notesAre("undone", x, 1, 1, 2, 2);
    }

    private static void theLastEightAreUndone() {
        CHECKS.sentence("UNDONE is the latest of these (the last 8 can be)");
        for (int acts = 1; acts <= 18; acts++) {
            ShiftedShapes x = Checks.laid("n0,0;");
            for (int i = 0; i < acts; i++) {
                x.shift(0, 1, 0);
            }
            int can = Math.min(acts, 8);
            due("count(2) behind " + acts + " acts", x.count(2), can);
            for (int left = can - 1; left >= 0; left--) {
                due("undo()", x.undo(), left);
                due("note(0, 0)", x.note(0, 0), acts - can + left);
            }
            due("undo() beyond", x.undo(), NO);
            due("note(0, 0)", x.note(0, 0), acts - can);
        }
        ShiftedShapes x = Checks.laid("n0,0;");
        for (int i = 0; i < 9; i++) {
            x.shift(0, 1, 0);
        }
        x.undo();
        due("count(2), one of eight undone", x.count(2), 7);
        x.shift(0, 1, 0);
        due("count(2), eight again", x.count(2), 8);
    }

    private static void eachActIsUndone() {
        CHECKS.sentence("A NOTE may be PUT, TAKEN, SHIFTED, all be SHIFTED alike; MODE be another one. UNDONE is the latest of these");
        ShiftedShapes x = Checks.RICH.make();
        CHECKS.notesAre("before", x, 0, 0, 4, 6, 4, 7, 19, 11);
        due("undo() of take", x.undo(), 4);
        CHECKS.notesAre("undone", x, 0, 0, 4, 6, 4, 7, 9, 9, 19, 11);
        due("undo() of shift", x.undo(), 3);
        CHECKS.notesAre("undone", x, 0, 0, 3, 5, 4, 7, 9, 9, 19, 11);
        due("undo() of put", x.undo(), 2);
        CHECKS.notesAre("undone", x, 0, 0, 3, 5, 4, 7, 9, 9);
        due("count(1)", x.count(1), 2);
        due("undo() of mode", x.undo(), 1);
        due("count(1)", x.count(1), 0);
        due("undo() of put", x.undo(), 0);
        CHECKS.notesAre("undone", x, 3, 5, 4, 7, 9, 9);
        due("undo()", x.undo(), NO);
        due("count(3), what is kept stays", x.count(3), 1);
        due("count(4), the text stays", x.count(4), 13);
        x.shiftAll(10, 2);
        due("undo() of shiftAll", x.undo(), 0);
        CHECKS.notesAre("undone", x, 3, 5, 4, 7, 9, 9);
    }

    private static void refusedActsAreNotUndone() {
        CHECKS.sentence("nothing changes then: nothing to be undone either");
        ShiftedShapes x = Checks.laid("m1;n0,0;n0,1;");
        x.put(0, 0);
        x.put(0, 12);
        x.take(2);
        x.shift(0, 0, 1);
        x.shift(0, 0, 0);
        x.shift(1, 0, -1);
        x.shiftAll(-1, 0);
        x.shiftAll(0, 0);
        x.mode(1);
        x.mode(3);
        due("count(2)", x.count(2), 0);
        due("undo()", x.undo(), NO);
        CHECKS.notesAre("as before", x, 0, 0, 0, 1);
    }

    /** Four notes of two shapes; with one of them taken there is none. */
    private static void whatIsFoundIsUndoneToo() {
        CHECKS.sentence("UNDONE: shapes are those of the piece as it stands");
        ShiftedShapes x = Checks.laid("n0,0;n1,1;n4,2;n5,3;");
        due("shapes(0)", x.shapes(0), 2);
        x.take(3);
        due("shapes(0) behind take(3)", x.shapes(0), 0);
        x.undo();
        due("shapes(0) behind undo()", x.shapes(0), 2);
        x.shift(3, 0, 1);
        due("shapes(0) behind shift", x.shapes(0), 0);
        x.mode(2);
        due("shapes(0) is not 0 in mode near", x.shapes(0) > 0 ? 1 : 0, 1);
        x.undo();
        due("shapes(0) behind undo()", x.shapes(0), 0);
        x.undo();
        x.shiftAll(2, 2);
        due("largest(1, 1) behind shiftAll", x.largest(1, 1), 5);
        due("shapes(0) behind shiftAll", x.shapes(0), 2);
    }

    private static void whatIsFoundIsOfThePieceAsItStands() {
        CHECKS.sentence("NO: not as things stand; SHAPES of the piece as it stands");
        Checks.State four = new Checks.State("n0,0;n1,1;n4,2;n5,3;m0;", x -> x.keep(), x -> x.put(8, 4), x -> x.put(9, 6),
            x -> Checks.rewrite(x, "n3,3;n6,6;n9,9;n10,0;"));
        CHECKS.foundAnew(four, "put(9, 5)", x -> x.put(9, 5));
        CHECKS.foundAnew(four, "take(1)", x -> x.take(1));
        CHECKS.foundAnew(four, "shift(0, 1, 0)", x -> x.shift(0, 1, 0));
        CHECKS.foundAnew(four, "shiftAll(1, 1)", x -> x.shiftAll(1, 1));
        CHECKS.foundAnew(four, "mode(1)", x -> x.mode(1));
        CHECKS.foundAnew(four, "mode(2)", x -> x.mode(2));
        CHECKS.foundAnew(four, "undo()", x -> x.undo());
        CHECKS.foundAnew(four, "back()", x -> x.back());
        CHECKS.foundAnew(four, "lay()", x -> x.lay());
    }
}
