/** The boundary cases of shifts, shapes, places, partings, links and better notes: promises 13 to 22 and their terms. */
public final class BoundaryShapesTest {
    private static final int BAD = Checks.BAD, NONE = Checks.NONE;
    private static final int LEAST = Checks.LEAST, MOST = Checks.MOST;

    private static final Checks CHECKS = new Checks();

    private static final String CORNERS = "n0,0;n19,11;";
    /** Notes 0 1 stand again as 2 3 (by 5,5) and as 4 5 (by 12,2); 0 2 4 stand again as 1 3 5 (by 1,3). */
    private static final String THREE_PAIRS = "n0,0;n1,3;n5,5;n6,8;n12,2;n13,5;";
    /** Notes 0 to 4 are five in a row; 5 7 stand again as 6 8 (by 2,3), 5 6 as 7 8 (by 5,1). */
    private static final String ROW_AND_SQUARE = "n0,0;n1,0;n2,0;n3,0;n4,0;n8,5;n10,8;n13,6;n15,9;";
    /** Notes 0 1 2 and 3 4 5 6 are rows, the first by 1,0, the other by 3,-2. */
    private static final String TWO_ROWS = "n0,0;n1,0;n2,0;n5,11;n8,9;n11,7;n14,5;";
    private static final String NO_SHAPE = "n0,0;n1,5;";

    private static final Checks.State ROUND_RICH = new Checks.State("m1;n0,10;n1,11;n4,0;", x -> x.keep(), x -> x.put(5, 1));
    private static final Checks.State FULL_PIECE = new Checks.State(Checks.FOURTEEN);

    public static void main(String[] args) {
        shiftsOfLargest();
        shiftsOfLargestInModeRound();
        largestOfNoneAndOfAll();
        shiftsAndNotesOfMeets();
        meetsJustAtTheEdges();
        meetsRoundAndRound();
        meetsNearEnough();
        meetsNearAtTheEdges();
        shapesOfTwoNotesOrMore();
        shapesOfShiftsAboveNothing();
        shapesInOrderNoTwoAlike();
        gainsBelowAndAboveNothing();
        shapesThatThereAre();
        setsThatHavePlaces();
        placesOneByOne();
        placesInOrder();
        bestOfNone();
        bestOfSeveral();
        partedOnlyByAGain();
        partedAnewOfTheOthers();
        partsThatThereAre();
        partingOfAllAndOfNone();
        fewestOfNoneOneAndMore();
        loneNotes();
        numbersOfShapes();
        notesOfALink();
        linksAtTheEdges();
        linksInModeRound();
        betterOfThirteenAndFourteen();
        betterWhereThereIsNone();
        betterOfSeveral();
        numbersOfBetter();
        CHECKS.end();
    }

    private static void due(String call, int got, int want) {
        CHECKS.due(call, got, want);
    }

    private static ShiftedShapes laid(String text) {
        return Checks.laid(text);
    }

    private static void largestIs(ShiftedShapes x, int d, int e, int want) {
        due("largest(" + d + ", " + e + ") in mode " + x.count(1), x.largest(d, e), want);
    }

    private static void meetsIs(ShiftedShapes x, int n, int d, int e, int want) {
        due("meets(" + n + ", " + d + ", " + e + ") in mode " + x.count(1), x.meets(n, d, e), want);
    }

    private static void shapeIs(ShiftedShapes x, int k, int set, int places, int cover, int gain) {
        due("shape(" + k + ", 0)", x.shape(k, 0), set);
        due("shape(" + k + ", 1)", x.shape(k, 1), places);
        due("shape(" + k + ", 2)", x.shape(k, 2), cover);
        due("shape(" + k + ", 3)", x.shape(k, 3), gain + 100);
    }

    private static void shiftsOfLargest() {
        CHECKS.sentence("A SHIFT is of d in TIME (-19 to 19) and e in PITCH (-11 to 11): LARGEST. BAD");
        for (int m = 0; m <= 2; m += 2) {
            Checks.State state = new Checks.State(CORNERS + "m" + m + ";", x -> x.put(7, 7), x -> x.keep());
            largestIs(state.make(), 19, 11, 1);
            largestIs(state.make(), -19, -11, 4);
            largestIs(state.make(), -19, 11, 0);
            largestIs(state.make(), 19, -11, 0);
            int[][] bad = {{20, 0}, {-20, 0}, {0, 12}, {0, -12}, {20, 11}, {19, 12}, {-20, -11}, {-19, -12}, {LEAST, 0}, {MOST, 0},
                {0, LEAST}, {0, MOST}, {LEAST, LEAST}, {MOST, MOST}};
            for (int[] b : bad) {
                CHECKS.unchanged(state, "largest(" + b[0] + ", " + b[1] + ")", x -> x.largest(b[0], b[1]), BAD);
            }
        }
        for (int d = -21; d <= 21; d++) {
            for (int e = -13; e <= 13; e++) {
                boolean shift = d >= -19 && d <= 19 && e >= -11 && e <= 11;
                int bits = d == 0 && e == 0 ? 3 : d == 19 && e == 11 ? 1 : d == -19 && e == -11 ? 2 : 0;
                largestIs(laid(CORNERS), d, e, shift ? bits : BAD);
            }
        }
    }

    private static void shiftsOfLargestInModeRound() {
        CHECKS.sentence("BAD (e in MODE ROUND 0 to 11)");
        for (int e = -13; e <= 13; e++) {
            int by = e;
            boolean shift = e >= 0 && e <= 11;
            ShiftedShapes x = laid(CORNERS + "m1;");
            largestIs(x, 19, e, shift ? e == 11 ? 1 : 0 : BAD);
            largestIs(x, -19, e, shift ? e == 1 ? 2 : 0 : BAD);
            largestIs(x, 0, e, shift ? e == 0 ? 3 : 0 : BAD);
            if (!shift) {
                CHECKS.unchanged(ROUND_RICH, "largest(1, " + e + ")", y -> y.largest(1, by), BAD);
            }
        }
        ShiftedShapes x = laid(CORNERS + "m1;");
        largestIs(x, 20, 0, BAD);
        largestIs(x, -20, 0, BAD);
        x.mode(0);
        largestIs(x, 0, -11, 0);
    }

    private static void largestOfNoneAndOfAll() {
        CHECKS.sentence("The LARGEST of a SHIFT is the set of all NOTES (bits) that MEET one by it");
        largestIs(laid("n5,5;"), 0, 0, 1);
        largestIs(laid("n5,5;"), 1, 0, 0);
        largestIs(FULL_PIECE.make(), 0, 0, 16383);
        largestIs(FULL_PIECE.make(), 0, 11, 1);
        // of the pitches 0 to 10 at time 1 each has one above it, and 0 at time 2 has
        largestIs(FULL_PIECE.make(), 0, 1, 2047 + 4096);
        largestIs(FULL_PIECE.make(), -1, 0, 4096 + 8192);
        largestIs(FULL_PIECE.make(), 19, 0, 0);
        CHECKS.unchanged(Checks.RICH, "largest(0, 0)", x -> x.largest(0, 0), 15);
    }

    private static void shiftsAndNotesOfMeets() {
        CHECKS.sentence("Which NOTE another one MEETS. NONE; BAD");
        int[][] bad = {{4, 0, 0}, {-1, 0, 0}, {14, 0, 0}, {0, 20, 0}, {0, -20, 0}, {0, 0, 12}, {0, 0, -12}, {3, 20, 12}, {LEAST, 0, 0},
            {MOST, 0, 0}, {0, LEAST, 0}, {0, MOST, 0}, {0, 0, LEAST}, {0, 0, MOST}, {4, 19, 11}};
        for (int[] b : bad) {
            CHECKS.unchanged(Checks.RICH, "meets(" + b[0] + ", " + b[1] + ", " + b[2] + ")", x -> x.meets(b[0], b[1], b[2]), BAD);
        }
        CHECKS.unchanged(Checks.RICH, "meets(3, 0, 0)", x -> x.meets(3, 0, 0), 3);
        CHECKS.unchanged(Checks.RICH, "meets(0, 19, 11)", x -> x.meets(0, 19, 11), 3);
        CHECKS.unchanged(Checks.RICH, "meets(3, -19, -11)", x -> x.meets(3, -19, -11), 0);
        CHECKS.unchanged(Checks.RICH, "meets(0, 18, 11)", x -> x.meets(0, 18, 11), NONE);
        for (int e = -12; e <= 12; e++) {
            int by = e;
            // note 0 is at pitch 10: by 2 it comes to 0, where note 2 is
            CHECKS.unchanged(ROUND_RICH, "meets(0, 4, " + e + ")", x -> x.meets(0, 4, by), e < 0 || e > 11 ? BAD : e == 2 ? 2 : NONE);
        }
        due("meets(13, 0, 0) of 14", FULL_PIECE.make().meets(13, 0, 0), 13);
        due("meets(14, 0, 0) of 14", FULL_PIECE.make().meets(14, 0, 0), BAD);
    }

    /** A pitch above 11 is none: it is not pitch 0 of the next time, and a time beyond 19 is none. */
    private static void meetsJustAtTheEdges() {
        CHECKS.sentence("By a SHIFT a NOTE MEETS the NOTE of TIME t and d, and: JUST: PITCH p and e; none, if there is none");
        ShiftedShapes x = laid("n0,11;n1,0;n18,11;n19,0;");
        meetsIs(x, 0, 0, 1, NONE);
        meetsIs(x, 0, 1, 1, NONE);
        meetsIs(x, 1, 0, -1, NONE);
        meetsIs(x, 1, -1, -1, NONE);
        meetsIs(x, 0, 1, -11, 1);
        meetsIs(x, 1, -1, 11, 0);
        meetsIs(x, 3, 1, 0, NONE);
        meetsIs(x, 3, 19, 11, NONE);
        meetsIs(x, 0, -1, 0, NONE);
        meetsIs(x, 0, -19, -11, NONE);
        meetsIs(x, 0, 19, -11, 3);
        meetsIs(x, 3, -19, 11, 0);
        largestIs(x, 0, 1, 0);
        largestIs(x, 1, -11, 5);
    }

    private static void meetsRoundAndRound() {
        CHECKS.sentence("ROUND: that modulo 12");
        ShiftedShapes x = laid("m1;n0,11;n1,0;n1,10;n2,11;");
        meetsIs(x, 0, 1, 0, NONE);
        meetsIs(x, 0, 1, 1, 1);
        meetsIs(x, 0, 1, 2, NONE);
        meetsIs(x, 0, 1, 11, 2);
        meetsIs(x, 0, 0, 1, NONE);
        meetsIs(x, 0, 0, 0, 0);
        meetsIs(x, 0, 0, 11, NONE);
        meetsIs(x, 1, 1, 11, 3);
        meetsIs(x, 1, -1, 11, 0);
        meetsIs(x, 2, 0, 2, 1);
        meetsIs(x, 1, 0, 10, 2);
        meetsIs(x, 3, 1, 1, NONE);
        meetsIs(x, 0, -1, 1, NONE);
        largestIs(x, 1, 1, 1 + 4);
        // the same shifts do not go round in the other modes
        x.mode(0);
        meetsIs(x, 0, 1, 1, NONE);
        meetsIs(x, 2, 0, 2, NONE);
        x.mode(2);
        meetsIs(x, 0, 1, 1, NONE);
        meetsIs(x, 2, 0, 2, NONE);
    }

    private static void meetsNearEnough() {
        CHECKS.sentence("NEAR: that, if there is one, else of 1 less, else of 1 more; none, if there is none");
        // ahead of note 0 (pitch 6) at time 1 all of 5 6 7, at time 2 all but 6, at time 3 only 7, at time 4 only 5
        ShiftedShapes x = laid("m2;n0,6;n1,5;n1,6;n1,7;n2,5;n2,7;n3,7;n4,5;");
        meetsIs(x, 0, 1, 0, 2);
        meetsIs(x, 0, 2, 0, 4);
        meetsIs(x, 0, 3, 0, 6);
        meetsIs(x, 0, 4, 0, 7);
        meetsIs(x, 0, 1, -1, 1);
        meetsIs(x, 0, 1, -2, 1);
        meetsIs(x, 0, 1, -3, NONE);
        meetsIs(x, 0, 1, 1, 3);
        meetsIs(x, 0, 1, 2, 3);
        meetsIs(x, 0, 1, 3, NONE);
        meetsIs(x, 0, 3, -1, NONE);
        meetsIs(x, 0, 3, 2, 6);
        meetsIs(x, 0, 4, 1, NONE);
        meetsIs(x, 0, 4, -2, 7);
        meetsIs(x, 0, 5, 0, NONE);
        CHECKS.sentence("NEAR: a NOTE MEETS itself too");
        meetsIs(x, 0, 0, 1, 0);
        meetsIs(x, 0, 0, -1, 0);
        meetsIs(x, 0, 0, 2, NONE);
        meetsIs(x, 0, 0, -2, NONE);
        meetsIs(x, 1, 0, 1, 2);
        meetsIs(x, 4, 0, 1, 4);
        meetsIs(x, 5, 0, -1, 4);
        x.mode(0);
        meetsIs(x, 0, 2, 0, NONE);
        meetsIs(x, 0, 0, 1, NONE);
    }

    private static void meetsNearAtTheEdges() {
        CHECKS.sentence("NEAR: that, else of 1 less, else of 1 more: not round, not at another time");
        ShiftedShapes x = laid("m2;n0,0;n1,11;n2,0;n3,11;");
        meetsIs(x, 0, 2, -1, 2);
        meetsIs(x, 0, 2, -2, NONE);
        meetsIs(x, 1, 2, 1, 3);
        meetsIs(x, 1, 2, 2, NONE);
        meetsIs(x, 0, 0, -1, 0);
        meetsIs(x, 1, 0, 1, 1);
        meetsIs(x, 0, 1, 0, NONE);
        meetsIs(x, 0, 1, -1, NONE);
        meetsIs(x, 0, 1, 10, 1);
        meetsIs(x, 0, 1, 11, 1);
        meetsIs(x, 0, 1, 9, NONE);
        meetsIs(x, 1, 1, -11, 2);
        meetsIs(x, 1, 1, -10, 2);
        meetsIs(x, 1, 1, -9, NONE);
        meetsIs(x, 1, 1, 1, NONE);
        meetsIs(x, 1, 0, 2, NONE);
    }

    private static void shapesOfTwoNotesOrMore() {
        CHECKS.sentence("SHAPES are the sets of two NOTES or more that are the LARGEST of a SHIFT");
        due("shapes(0) of one note", laid("n5,5;").shapes(0), 0);
        due("shapes(0) of two notes", laid("n5,5;n6,6;").shapes(0), 0);
        // by 1,1 notes 0 and 1 stand again, by 2,2 note 0 alone
        ShiftedShapes row = laid("n5,5;n6,6;n7,7;");
        due("shapes(0) of three in a row", row.shapes(0), 1);
        shapeIs(row, 0, 3, 2, 7, 0);
        due("shapes(0) of three, no row", laid("n5,5;n6,6;n7,8;").shapes(0), 0);
        CHECKS.sentence("SHAPES of all NOTES at once: in MODE NEAR");
        // by 0,1 both meet themselves; so they do by 0,-1 and 0,0
        ShiftedShapes near = laid("m2;n0,0;n9,9;");
        due("shapes(0) of two notes in mode near", near.shapes(0), 1);
        shapeIs(near, 0, 3, 3, 3, -2);
        due("shapes(0) of one note in mode near", laid("m2;n5,5;").shapes(0), 0);
    }

    private static void shapesOfShiftsAboveNothing() {
        CHECKS.sentence("the LARGEST of a SHIFT of d above 0, or of 0 and e above 0");
        // by 0,0 all notes stand, by shifts below it notes 1 and 2: no shapes
        ShiftedShapes chord = laid("n5,0;n5,1;n5,2;");
        due("largest(0, -1)", chord.largest(0, -1), 6);
        due("largest(0, 0)", chord.largest(0, 0), 7);
        due("shapes(0)", chord.shapes(0), 1);
        shapeIs(chord, 0, 3, 2, 7, 0);
        ShiftedShapes row = laid("n5,5;n6,4;n7,3;");
        due("largest(-1, 1)", row.largest(-1, 1), 6);
        due("shapes(0)", row.shapes(0), 1);
        shapeIs(row, 0, 3, 2, 7, 0);
        due("largest(0, 0) of no shape", laid(NO_SHAPE).largest(0, 0), 3);
        due("shapes(0) of no shape", laid(NO_SHAPE).shapes(0), 0);
        // round, two notes six apart meet one another by 0,6
        ShiftedShapes round = laid("m1;n5,2;n5,8;");
        due("shapes(0)", round.shapes(0), 1);
        shapeIs(round, 0, 3, 2, 3, -1);
    }

    private static void shapesInOrderNoTwoAlike() {
        CHECKS.sentence("SHAPES 0, 1, .. in order by the first such SHIFT; no two alike");
        ShiftedShapes x = laid(THREE_PAIRS);
        due("largest(5, 5)", x.largest(5, 5), 3);
        due("largest(12, 2), the same set", x.largest(12, 2), 3);
        due("shapes(0)", x.shapes(0), 3);
        shapeIs(x, 0, 1 + 4 + 16, 2, 63, 2);
        shapeIs(x, 1, 3, 3, 63, 2);
        shapeIs(x, 2, 12, 3, 63, 2);
        // by 1,1 and again by 5,0 notes 0 and 3, by 4,-1 notes 1 and 4, by 9,3 notes 0 1 2
        ShiftedShapes again = laid("n0,0;n1,1;n5,0;n9,3;n10,4;n14,3;");
        due("largest(1, 1)", again.largest(1, 1), 9);
        due("largest(5, 0), the same set", again.largest(5, 0), 9);
        due("shapes(0), the first of them comes once", again.shapes(0), 3);
        shapeIs(again, 0, 9, 3, 63, 2);
        shapeIs(again, 1, 18, 3, 63, 2);
        shapeIs(again, 2, 7, 2, 63, 2);
        // of one d the lower e is first: 0 1 stand again by 3,-2 as 2 3, and by 3,4 the others as 6 7
        ShiftedShapes y = laid("n0,5;n1,8;n3,3;n4,6;n10,2;n11,0;n13,6;n14,4;");
        due("largest(3, -2)", y.largest(3, -2), 3);
        due("largest(3, 4)", y.largest(3, 4), 48);
        int low = -1;
        int high = -1;
        for (int k = 0; k < y.shapes(0); k++) {
            low = y.shape(k, 0) == 3 ? k : low;
            high = y.shape(k, 0) == 48 ? k : high;
        }
        due("the shape by 3,4 comes just behind that by 3,-2", high - low, 1);
    }

    private static void gainsBelowAndAboveNothing() {
        CHECKS.sentence("GAIN of a SHAPE: NOTES of its COVER, less its own and its PLACES, and 1; GAIN and 100 (3)");
        due("gain below 0", laid("m2;n0,0;n9,9;").shape(0, 3), 98);
        due("gain 0", laid("n0,0;n1,1;n2,2;").shape(0, 3), 100);
        due("gain 1", laid("n0,0;n1,1;n4,2;n5,3;").shape(0, 3), 101);
        due("gain 2", laid(THREE_PAIRS).shape(0, 3), 102);
        CHECKS.sentence("PLACES of a set are SHIFTS by which all of it MEET one: those below 0 too");
        due("place(12, -1)", laid(THREE_PAIRS).place(12, -1), 3);
        due("place(12, 0)", laid(THREE_PAIRS).place(12, 0), 4545);
    }

    private static void shapesThatThereAre() {
        CHECKS.sentence("Of the k-th SHAPE. BAD (no such one)");
        Checks.State pairs = new Checks.State(THREE_PAIRS, x -> x.keep(), x -> x.mode(2), x -> x.mode(0));
        int[][] bad = {{3, 0}, {3, 1}, {3, 2}, {3, 3}, {-1, 0}, {-1, 3}, {0, 4}, {0, -1}, {2, 4}, {2, -1}, {3, 4}, {LEAST, 0}, {MOST, 0},
            {0, LEAST}, {0, MOST}, {448, 0}, {449, 0}};
        for (int[] b : bad) {
            CHECKS.unchanged(pairs, "shape(" + b[0] + ", " + b[1] + ")", x -> x.shape(b[0], b[1]), BAD);
        }
        CHECKS.unchanged(pairs, "shape(2, 0)", x -> x.shape(2, 0), 12);
        for (int what = 0; what <= 3; what++) {
            int asked = what;
            CHECKS.unchanged(new Checks.State(NO_SHAPE), "shape(0, " + what + ") of none", x -> x.shape(0, asked), BAD);
        }
    }

    private static void setsThatHavePlaces() {
        CHECKS.sentence("PLACES of a set of NOTES (bits; one at least): BAD");
        Checks.State three = new Checks.State("n5,5;n6,6;n7,7;", x -> x.keep(), x -> x.mode(2), x -> x.mode(0));
        for (int set : new int[] {0, -1, 8, 9, 15, 16384, LEAST, MOST, LEAST + 1}) {
            CHECKS.unchanged(three, "place(" + set + ", -1)", x -> x.place(set, -1), BAD);
            CHECKS.unchanged(three, "place(" + set + ", 0)", x -> x.place(set, 0), BAD);
        }
        int[] places = {0, 3, 3, 2, 3, 1, 2, 1};
        for (int set = 1; set <= 7; set++) {
            due("place(" + set + ", -1)", three.make().place(set, -1), places[set]);
        }
        due("place(16383, -1) of 14", FULL_PIECE.make().place(16383, -1), 1);
        due("place(16384, -1) of 14", FULL_PIECE.make().place(16384, -1), BAD);
        due("place(8192, -1) of 14", FULL_PIECE.make().place(8192, -1), 14);
        due("place(1, -1) of one", laid("n5,5;").place(1, -1), 1);
        due("place(2, -1) of one", laid("n5,5;").place(2, -1), BAD);
        ShiftedShapes x = laid("n5,5;n6,6;");
        x.take(1);
        due("place(2, -1), its note is taken", x.place(2, -1), BAD);
    }

    private static void placesOneByOne() {
        CHECKS.sentence("how many (i = -1), the i-th; NONE: not so many; BAD (below -1, too)");
        Checks.State three = new Checks.State("n5,5;n6,6;n7,7;", x -> x.keep(), x -> x.mode(2), x -> x.mode(0));
        CHECKS.unchanged(three, "place(3, -1)", x -> x.place(3, -1), 2);
        CHECKS.unchanged(three, "place(3, 0)", x -> x.place(3, 0), 5050);
        CHECKS.unchanged(three, "place(3, 1)", x -> x.place(3, 1), 5151);
        for (int i : new int[] {2, 3, 896, 897, MOST}) {
            CHECKS.unchanged(three, "place(3, " + i + ")", x -> x.place(3, i), NONE);
        }
        for (int i : new int[] {-2, -3, LEAST}) {
            CHECKS.unchanged(three, "place(3, " + i + ")", x -> x.place(3, i), BAD);
        }
        due("place(7, 0), all notes", three.make().place(7, 0), 5050);
        due("place(7, 1), all notes", three.make().place(7, 1), NONE);
        CHECKS.sentence("Of several the first: BAD ahead of NONE");
        CHECKS.unchanged(three, "place(8, 99)", x -> x.place(8, 99), BAD);
        CHECKS.unchanged(three, "place(0, 9999)", x -> x.place(0, 9999), BAD);
    }

    private static void placesInOrder() {
        CHECKS.sentence("SHIFTS are in order by d, then by e; 100 times (d and 50), and e and 50");
        ShiftedShapes x = laid(CORNERS);
        due("place(1, -1)", x.place(1, -1), 2);
        due("place(1, 0)", x.place(1, 0), 5050);
        due("place(1, 1), 19 and 11", x.place(1, 1), 6961);
        due("place(1, 2)", x.place(1, 2), NONE);
        due("place(2, -1)", x.place(2, -1), 2);
        due("place(2, 0), -19 and -11", x.place(2, 0), 3139);
        due("place(2, 1)", x.place(2, 1), 5050);
        due("place(2, 2)", x.place(2, 2), NONE);
        x.mode(1);
        due("place(1, 1) round", x.place(1, 1), 6961);
        due("place(2, 0) round, -19 and 1", x.place(2, 0), 3151);
        // near, the note meets itself by -1 0 1, and the other by 10 and 11: a shift of 12 there is none
        x.mode(2);
        due("place(1, -1) near", x.place(1, -1), 5);
        int[] near = {5049, 5050, 5051, 6960, 6961, NONE};
        for (int i = 0; i < near.length; i++) {
            due("place(1, " + i + ") near", x.place(1, i), near[i]);
        }
        ShiftedShapes chords = laid("n5,5;n4,4;n4,9;n5,2;n5,11;n6,0;");
        int[] all = {4949, 4954, 5047, 5050, 5056, 5145, NONE};
        for (int i = 0; i < all.length; i++) {
            due("place(8, " + i + ") of 5,5", chords.place(8, i), all[i]);
        }
    }

    private static void bestOfNone() {
        CHECKS.sentence("BEST. NONE: there is no SHAPE; BAD");
        Checks.State none = new Checks.State(NO_SHAPE, x -> x.keep(), x -> x.mode(1), x -> x.mode(0));
        CHECKS.unchanged(none, "best(0) of none", x -> x.best(0), NONE);
        CHECKS.unchanged(none, "best(1) of none", x -> x.best(1), NONE);
        due("best(0) of one note", laid("n5,5;").best(0), NONE);
        Checks.State some = new Checks.State("n5,5;n6,6;n7,7;", x -> x.keep(), x -> x.mode(1), x -> x.mode(0));
        CHECKS.unchanged(some, "best(0)", x -> x.best(0), 0);
        CHECKS.unchanged(some, "best(1), a gain of 0", x -> x.best(1), 100);
        due("best(0) of a gain below 0", laid("m2;n0,0;n9,9;").best(0), 0);
        due("best(1) of a gain below 0", laid("m2;n0,0;n9,9;").best(1), 98);
        for (int what : new int[] {-1, 2, LEAST, MOST}) {
            CHECKS.unchanged(some, "best(" + what + ")", x -> x.best(what), BAD);
            // of several the first, as BAD, NO, NONE, FULL are told
            CHECKS.unchanged(none, "best(" + what + ") of none", x -> x.best(what), BAD);
        }
    }

    private static void bestOfSeveral() {
        CHECKS.sentence("BEST is that of the greatest GAIN, of several that of the greatest COVER, of several the first");
        ShiftedShapes gain = laid(ROW_AND_SQUARE);
        int[] sets = {15, 7, 32 + 128, 3, 32 + 64};
        due("shapes(0)", gain.shapes(0), sets.length);
        for (int k = 0; k < sets.length; k++) {
            due("shape(" + k + ", 0)", gain.shape(k, 0), sets[k]);
        }
        shapeIs(gain, 0, 15, 2, 31, 0);
        shapeIs(gain, 2, 160, 2, 480, 1);
        due("best(0), the greater gain of a lesser cover, the first of two", gain.best(0), 2);
        due("best(1)", gain.best(1), 101);
        ShiftedShapes cover = laid(TWO_ROWS);
        shapeIs(cover, 0, 3, 2, 7, 0);
        shapeIs(cover, 1, 56, 2, 120, 0);
        shapeIs(cover, 2, 24, 3, 120, 0);
        due("shapes(0)", cover.shapes(0), 3);
        due("best(0), the greater cover, the first of two", cover.best(0), 1);
        // the cover of note numbers 0 to 3 is four notes, though as a number it is below that of the last three
        ShiftedShapes low = laid("n0,11;n3,9;n6,7;n9,5;n14,0;n15,0;n16,0;");
        shapeIs(low, 0, 48, 2, 112, 0);
        shapeIs(low, 1, 7, 2, 15, 0);
        due("best(0), the cover of more notes", low.best(0), 1);
        due("best(0) of three alike", laid(THREE_PAIRS).best(0), 0);
    }

    private static void partedOnlyByAGain() {
        CHECKS.sentence("PARTED is a piece so: of the BEST SHAPE, if its GAIN is above 0, all NOTES of its COVER are set aside");
        ShiftedShapes nothing = laid("n0,0;n1,1;n2,2;");
        due("best(1), a gain of 0", nothing.best(1), 100);
        due("parting(0) of a gain of 0", nothing.parting(0), 0);
        due("parted(0, 0) of a gain of 0", nothing.parted(0, 0), NONE);
        ShiftedShapes one = laid("n0,0;n1,1;n4,2;n5,3;");
        due("best(1), a gain of 1", one.best(1), 101);
        due("parting(0) of a gain of 1", one.parting(0), 1);
        due("parted(0, 0) of a gain of 1", one.parted(0, 0), 5);
        due("parting(0) of a gain below 0", laid("m2;n0,0;n9,9;").parting(0), 0);
        ShiftedShapes square = laid(ROW_AND_SQUARE);
        due("parting(0), the row behind it has a gain of 0", square.parting(0), 1);
        due("parted(0, 0)", square.parted(0, 0), 160);
        due("parted(0, 1)", square.parted(0, 1), 2);
        due("parted(0, 2)", square.parted(0, 2), 480);
        due("parting(1)", square.parting(1), 31);
        due("parting(2)", square.parting(2), 2 + 2 - 1 + 5);
    }

    /** Notes 1 4 stand again as 0 3 and 2 5 (the first shift is 1,-3); of the others 6 8 stand again as 7 9. */
    private static final String TWO_PARTS = "n0,0;n1,5;n2,2;n5,1;n6,6;n7,3;n9,8;n10,11;n14,4;n15,7;";

    private static void partedAnewOfTheOthers() {
        CHECKS.sentence("of the others, as if there were no more, SHAPES are found anew, the BEST is taken likewise, and so on");
        ShiftedShapes x = laid(TWO_PARTS);
        due("parted(0, 0)", x.parted(0, 0), 2 + 16);
        due("parted(0, 1)", x.parted(0, 1), 3);
        due("parted(0, 2)", x.parted(0, 2), 63);
        due("parted(1, 0), bits of the whole piece", x.parted(1, 0), 64 + 256);
        due("parted(1, 1)", x.parted(1, 1), 2);
        due("parted(1, 2), bits of the whole piece", x.parted(1, 2), 64 + 128 + 256 + 512);
        due("parted(2, 0)", x.parted(2, 0), NONE);
        due("parting(0)", x.parting(0), 2);
        due("parting(1)", x.parting(1), 0);
        due("parting(2)", x.parting(2), (2 + 3 - 1) + (2 + 2 - 1));
    }

    private static void partsThatThereAre() {
        CHECKS.sentence("Of the k-th SHAPE taken. NONE: not so many; BAD");
        Checks.State two = new Checks.State(TWO_PARTS, x -> x.keep(), x -> x.mode(2), x -> x.mode(0));
        CHECKS.unchanged(two, "parted(1, 0)", x -> x.parted(1, 0), 64 + 256);
        for (int k : new int[] {2, 3, 13, 14, 15, MOST}) {
            for (int what = 0; what <= 2; what++) {
                int asked = what;
                CHECKS.unchanged(two, "parted(" + k + ", " + what + ")", x -> x.parted(k, asked), NONE);
            }
        }
        int[][] bad = {{-1, 0}, {-1, 2}, {LEAST, 0}, {0, 3}, {0, -1}, {1, 3}, {0, LEAST}, {0, MOST}, {-1, 3}};
        for (int[] b : bad) {
            CHECKS.unchanged(two, "parted(" + b[0] + ", " + b[1] + ")", x -> x.parted(b[0], b[1]), BAD);
        }
        due("parted(0, 0) of one note", laid("n5,5;").parted(0, 0), NONE);
        CHECKS.sentence("Of several the first: BAD ahead of NONE");
        CHECKS.unchanged(two, "parted(2, 3)", x -> x.parted(2, 3), BAD);
        CHECKS.unchanged(two, "parted(2, -1)", x -> x.parted(2, -1), BAD);
    }

    private static void partingOfAllAndOfNone() {
        CHECKS.sentence("PARTED: how many SHAPES (what = 0), REST (1; bits), PRICE (2). BAD");
        ShiftedShapes one = laid("n5,5;");
        due("parting(0) of one note", one.parting(0), 0);
        due("parting(1) of one note", one.parting(1), 1);
        due("parting(2) of one note", one.parting(2), 1);
        ShiftedShapes none = laid(NO_SHAPE);
        due("parting(1), all are left", none.parting(1), 3);
        due("parting(2), all are left", none.parting(2), 2);
        ShiftedShapes all = laid("n0,0;n1,1;n4,2;n5,3;");
        due("parting(1), none is left", all.parting(1), 0);
        due("parting(2), none is left", all.parting(2), 3);
        Checks.State two = new Checks.State(TWO_PARTS, x -> x.keep(), x -> x.mode(2), x -> x.mode(0));
        CHECKS.unchanged(two, "parting(0)", x -> x.parting(0), 2);
        CHECKS.unchanged(two, "parting(2)", x -> x.parting(2), 7);
        for (int what : new int[] {-1, 3, LEAST, MOST}) {
            CHECKS.unchanged(two, "parting(" + what + ")", x -> x.parting(what), BAD);
        }
    }

    private static void fewestOfNoneOneAndMore() {
        CHECKS.sentence("FEWEST: of SHAPES as few as can be of which the COVERS together have all NOTES that any of their COVERS has");
        due("shapes(1) of no shape", laid(NO_SHAPE).shapes(1), 0);
        due("shapes(1) of one note", laid("n5,5;").shapes(1), 0);
        due("shapes(1) of one shape", laid("n5,5;n6,6;n7,7;").shapes(1), 1);
        due("shapes(1) of three shapes of one cover", laid(THREE_PAIRS).shapes(1), 1);
        due("shapes(1) of two rows", laid(TWO_ROWS).shapes(1), 2);
        // rows of three by 1,0 and 2,1 and 1,3; no two of their notes are the same shift apart as two others
        ShiftedShapes three = laid("n0,0;n1,0;n2,0;n7,2;n9,3;n11,4;n17,5;n18,8;n19,11;");
        due("shapes(0) of three rows", three.shapes(0), 3);
        due("shapes(1) of three rows", three.shapes(1), 3);
        // covers of another piece, asked for ahead of these, are not among them
        ShiftedShapes later = FULL_PIECE.make();
        due("shapes(1) of 14", later.shapes(1), 1);
        Checks.rewrite(later, "n0,0;n1,0;n2,0;n7,2;n9,3;n11,4;n17,5;n18,8;n19,11;");
        later.lay();
        due("shapes(1) of three rows behind it", later.shapes(1), 3);
        // covers 6 7 8 (by 1,0), 9 10 11 (by 1,3), 0 to 5 (by 2,1); then a piece of six notes and two covers
        Checks.rewrite(later, "n0,0;n2,1;n4,2;n6,3;n8,4;n10,5;n12,8;n13,8;n14,8;n16,0;n17,3;n18,6;");
        later.lay();
        due("shapes(1) of a long row and two short ones", later.shapes(1), 3);
        Checks.rewrite(later, "n0,0;n1,0;n2,0;n8,3;n10,4;n12,5;");
        later.lay();
        due("shapes(1) of two rows behind it", later.shapes(1), 2);
        // covers 0 1 2 3 (by 1,0 and 2,1), 1 2 4 (by 1,1), 0 3 6 (by 3,1): the greatest is not among the fewest
        ShiftedShapes trap = laid("n4,3;n5,3;n6,4;n7,4;n7,5;n8,1;n10,5;");
        shapeIs(trap, 0, 1 + 4, 2, 15, 1);
        shapeIs(trap, 1, 2 + 4, 2, 2 + 4 + 16, 0);
        shapeIs(trap, 2, 1 + 2, 2, 15, 1);
        shapeIs(trap, 3, 1 + 8, 2, 1 + 8 + 64, 0);
        due("shapes(0)", trap.shapes(0), 4);
        due("shapes(1), not by the greatest cover first", trap.shapes(1), 2);
        due("shapes(2)", trap.shapes(2), 32);
    }

    private static void loneNotes() {
        CHECKS.sentence("LONE are NOTES that no COVER of a SHAPE has");
        due("shapes(2) of one note", laid("n5,5;").shapes(2), 1);
        due("shapes(2), all are lone", laid(NO_SHAPE).shapes(2), 3);
        due("shapes(2), none is lone", laid("n5,5;n6,6;n7,7;").shapes(2), 0);
        due("shapes(2), the last is lone", laid("n5,5;n6,6;n7,7;n19,0;").shapes(2), 8);
        due("shapes(2), the first is lone", laid("n5,5;n6,6;n7,7;n0,11;").shapes(2), 1);
        due("shapes(2) of 14", FULL_PIECE.make().shapes(2), 0);
    }

    private static void numbersOfShapes() {
        CHECKS.sentence("How many SHAPES there are (what = 0), FEWEST (1), LONE (2; bits). BAD");
        Checks.State two = new Checks.State(TWO_ROWS, x -> x.keep(), x -> x.mode(2), x -> x.mode(0));
        CHECKS.unchanged(two, "shapes(0)", x -> x.shapes(0), 3);
        CHECKS.unchanged(two, "shapes(1)", x -> x.shapes(1), 2);
        CHECKS.unchanged(two, "shapes(2)", x -> x.shapes(2), 0);
        for (int what : new int[] {-1, 3, LEAST, MOST}) {
            CHECKS.unchanged(two, "shapes(" + what + ")", x -> x.shapes(what), BAD);
        }
    }

    private static void notesOfALink() {
        CHECKS.sentence("LINK of two NOTES. BAD (alike, too)");
        int[][] bad = {{0, 0, 0}, {3, 3, 2}, {0, 4, 0}, {4, 0, 0}, {4, 4, 0}, {-1, 0, 0}, {0, -1, 0}, {-1, -1, 0}, {0, 1, 3}, {0, 1, -1},
            {0, 0, 3}, {LEAST, 0, 0}, {0, MOST, 0}, {MOST, 0, 1}, {0, LEAST, 1}, {0, 1, LEAST}, {0, 1, MOST}};
        for (int[] b : bad) {
            CHECKS.unchanged(Checks.RICH, "link(" + b[0] + ", " + b[1] + ", " + b[2] + ")", x -> x.link(b[0], b[1], b[2]), BAD);
        }
        CHECKS.unchanged(Checks.RICH, "link(0, 3, 0)", x -> x.link(0, 3, 0), 69);
        CHECKS.unchanged(Checks.RICH, "link(3, 0, 1)", x -> x.link(3, 0, 1), 39);
        due("link(0, 0, 0) of one note", laid("n5,5;").link(0, 0, 0), BAD);
        due("link(0, 1, 0) of one note", laid("n5,5;").link(0, 1, 0), BAD);
        due("link(13, 0, 0) of 14", FULL_PIECE.make().link(13, 0, 0), 49);
        due("link(14, 0, 0) of 14", FULL_PIECE.make().link(14, 0, 0), BAD);
    }

    private static void linksAtTheEdges() {
        CHECKS.sentence("LINK of two NOTES: d and 50 (what = 0), e and 50 (1), how many are in its LARGEST (2)");
        ShiftedShapes x = laid(CORNERS);
        int[] there = {69, 61, 1};
        int[] back = {31, 39, 1};
        for (int what = 0; what <= 2; what++) {
            due("link(0, 1, " + what + ")", x.link(0, 1, what), there[what]);
            due("link(1, 0, " + what + ")", x.link(1, 0, what), back[what]);
        }
        ShiftedShapes chord = laid("n5,0;n5,11;");
        due("link(0, 1, 0)", chord.link(0, 1, 0), 50);
        due("link(0, 1, 1)", chord.link(0, 1, 1), 61);
        due("link(1, 0, 1)", chord.link(1, 0, 1), 39);
        due("link(0, 1, 2) of 14, pitches 0 to 10 at time 1 and 0 at time 2", FULL_PIECE.make().link(0, 1, 2), 12);
        // near, by 1,1 note 0 meets note 1, and note 2 note 3, which is 2 above it
        ShiftedShapes near = laid("n0,5;n1,6;n4,5;n5,7;");
        due("link(0, 1, 2) just", near.link(0, 1, 2), 1);
        near.mode(2);
        due("link(0, 1, 2) near", near.link(0, 1, 2), 2);
        due("link(2, 3, 1) near, the pitch just so", near.link(2, 3, 1), 52);
    }

    private static void linksInModeRound() {
        CHECKS.sentence("LINK: (in MODE ROUND modulo 12)");
        ShiftedShapes x = laid("m1;n0,0;n2,0;n5,11;n7,11;");
        due("link(0, 2, 1), 11", x.link(0, 2, 1), 61);
        due("link(2, 0, 1), -11", x.link(2, 0, 1), 51);
        due("link(2, 0, 0), the time is not round", x.link(2, 0, 0), 45);
        due("link(0, 1, 1), 0", x.link(0, 1, 1), 50);
        due("link(1, 0, 1), 0", x.link(1, 0, 1), 50);
        due("link(2, 0, 2), by -5,1 notes 2 and 3", x.link(2, 0, 2), 2);
        due("link(1, 0, 2), by -2,0 notes 1 and 3", x.link(1, 0, 2), 2);
        due("link(3, 0, 2), by -7,1 note 3", x.link(3, 0, 2), 1);
        x.mode(0);
        due("link(2, 0, 1) just", x.link(2, 0, 1), 39);
        due("link(2, 0, 2) just", x.link(2, 0, 2), 2);
    }

    private static void betterOfThirteenAndFourteen() {
        CHECKS.sentence("BETTER: none (there are 14)");
        CHECKS.unchanged(FULL_PIECE, "better(0) of 14", x -> x.better(0), NONE);
        CHECKS.unchanged(FULL_PIECE, "better(1) of 14", x -> x.better(1), NONE);
        // with 2,6 the notes 1,0 to 1,5 and 2,0 stand again by 0,6: 14 notes are told by 7 and 2 places
        ShiftedShapes x = FULL_PIECE.make();
        x.take(13);
        due("better(0) of 13", x.better(0), 206);
        due("better(1) of 13", x.better(1), 106);
        x.undo();
        due("better(0) of 14 again", x.better(0), NONE);
        CHECKS.sentence("Of several the first: BAD ahead of NONE");
        for (int what : new int[] {-1, 2, LEAST, MOST}) {
            CHECKS.unchanged(FULL_PIECE, "better(" + what + ") of 14", y -> y.better(what), BAD);
        }
    }

    private static void betterWhereThereIsNone() {
        CHECKS.sentence("BETTER: a NOTE more, there where there is none");
        due("better(0) beside 0,0", laid("n0,0;").better(0), 1);
        due("better(0) beside 0,0 to 0,1", laid("n0,0;n0,1;").better(0), 2);
        due("better(0), 0,0 is free", laid("n0,1;").better(0), 0);
        String chord = "n0,0;n0,1;n0,2;n0,3;n0,4;n0,5;n0,6;n0,7;n0,8;n0,9;n0,10;n0,11;";
        due("better(0) is behind 0,0 to 0,11", laid(chord).better(0) >= 100 ? 1 : 0, 1);
        CHECKS.sentence("GAIN and 100 (1; NONE: no SHAPE then)");
        due("better(1) of one note", laid("n5,5;").better(1), NONE);
        due("better(0) of one note", laid("n5,5;").better(0), 0);
        CHECKS.sentence("the greatest GAIN (none: below all)");
        // round, only 3,6 makes a shape with 3,0: by 0,6 they meet one another, which gains -1
        due("better(0) of one note, round", laid("m1;n3,0;").better(0), 306);
        due("better(1) of one note, round", laid("m1;n3,0;").better(1), 99);
        due("better(0), round, the last place", laid("m1;n19,5;").better(0), 1911);
        // near, any two notes meet themselves by 0,1: all places gain -2
        due("better(0) of one note, near", laid("m2;n19,11;").better(0), 0);
        due("better(1) of one note, near", laid("m2;n19,11;").better(1), 98);
    }

    private static void betterOfSeveral() {
        CHECKS.sentence("BETTER: of several the first by TIME, then PITCH: 100 times the TIME, and the PITCH");
        // three in a row: 8,4 ahead, 11,.. between there is none, 14,7 behind
        due("better(0), ahead", laid("n10,5;n12,6;").better(0), 804);
        due("better(0), no time ahead", laid("n0,5;n2,6;").better(0), 407);
        due("better(0), no pitch ahead", laid("n10,0;n12,1;").better(0), 1402);
        due("better(0), between is behind ahead", laid("n10,5;n12,7;").better(0), 803);
        due("better(0), only between", laid("n0,1;n18,11;").better(0), 906);
        due("better(0), nowhere: the first place", laid("n0,0;n19,11;").better(0), 1);
        due("better(1), nowhere", laid("n0,0;n19,11;").better(1), NONE);
        due("better(0), 0,0 itself", laid("n1,1;n2,2;").better(0), 0);
        due("better(1), 0,0 itself", laid("n1,1;n2,2;").better(1), 100);
        // 0,0 and 0,11 stand again by 19,0; no other note makes two and two alike
        due("better(0), the last place", laid("n0,0;n0,11;n19,0;").better(0), 1911);
        due("better(1), two and two alike", laid("n0,0;n0,11;n19,0;").better(1), 101);
    }

    private static void numbersOfBetter() {
        CHECKS.sentence("BETTER: where (what = 0), GAIN and 100 (1). BAD");
        for (int what : new int[] {-1, 2, LEAST, MOST}) {
            CHECKS.unchanged(Checks.RICH, "better(" + what + ")", x -> x.better(what), BAD);
        }
        Checks.State two = new Checks.State("n10,5;n12,6;", x -> x.keep(), x -> x.put(0, 0), x -> x.undo());
        CHECKS.unchanged(two, "better(0)", x -> x.better(0), 804);
        CHECKS.unchanged(two, "better(1)", x -> x.better(1), 100);
    }
}
