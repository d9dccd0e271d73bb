/** The boundary cases of the text and of the piece that is laid: promises 1 to 6 and the terms they use. */
public final class BoundaryPiecesTest {
    private static final int BAD = Checks.BAD, NO = Checks.NO, FULL = Checks.FULL, NONE = Checks.NONE;
    private static final int LEAST = Checks.LEAST, MOST = Checks.MOST;
    private static final String FOURTEEN = Checks.FOURTEEN;

    private static final Checks CHECKS = new Checks();

    public static void main(String[] args) {
        aNewObject();
        lettersThatMayBeWritten();
        twoHundredLetters();
        wiping();
        itemLetters();
        everyLetterAtEveryPlaceOfAnItem();
        figures();
        timesAndPitchesOfTheText();
        modesOfTheText();
        noTwoAlikeInTheText();
        fourteenInTheText();
        theFirstFault();
        faultAtTheEndOfTheText();
        faultLetterByLetter();
        layingNeedsANote();
        layingWithAFault();
        layingLeavesNothingUndoneOrKept();
        theModeThatIsLaid();
        numberedByTimeThenPitch();
        notesThatThereAre();
        CHECKS.end();
    }

    private static void due(String call, int got, int want) {
        CHECKS.due(call, got, want);
    }

    private static void faultIs(String text, int want) {
        ShiftedShapes x = new ShiftedShapes();
        Checks.write(x, text);
        due("fault() of " + text, x.fault(), want);
    }

    private static void soundIf(boolean sound, String text) {
        faultIs(text, sound ? NONE : 0);
    }

    private static void aNewObject() {
        CHECKS.sentence("at first n0,2;n1,4;..n15,11;m0;");
        ShiftedShapes x = new ShiftedShapes();
        CHECKS.notesAre("at first", x, 0, 2, 1, 4, 2, 5, 4, 4, 5, 6, 6, 7, 8, 2, 9, 4, 10, 6, 12, 0, 13, 2, 14, 3, 15, 11);
        for (int what = 1; what <= 4; what++) {
            due("count(" + what + ")", x.count(what), 0);
        }
        due("fault()", x.fault(), NONE);
        due("lay() of no text", x.lay(), NO);
        due("undo()", x.undo(), NO);
        due("back()", x.back(), NO);
        due("wipe()", x.wipe(), 0);
        due("note(12, 0)", x.note(12, 0), 15);
        due("note(13, 0)", x.note(13, 0), BAD);
        due("put(19, 11), a 14th", x.put(19, 11), 13);
        due("put(19, 10), a 15th", x.put(19, 10), FULL);
    }

    private static void lettersThatMayBeWritten() {
        CHECKS.sentence("A letter (32 to 126, as in ASCII)");
        ShiftedShapes x = new ShiftedShapes();
        for (int letter = 32; letter <= 126; letter++) {
            due("write(" + letter + ")", x.write(letter), letter - 31);
        }
        for (int letter : new int[] {31, 127, 0, -1, 10, 128, 255, 256 + 'n', -'n', LEAST, MOST}) {
            CHECKS.unchanged(Checks.RICH, "write(" + letter + ")", y -> y.write(letter), BAD);
        }
    }

    private static void twoHundredLetters() {
        CHECKS.sentence("A TEXT is letters (200 at most)");
        String text = Checks.padded("n19,11;", 199);
        ShiftedShapes x = new ShiftedShapes();
        due("the 199th letter", Checks.write(x, text), 199);
        due("the 200th letter", x.write('n'), 200);
        due("the 201st letter", x.write('n'), FULL);
        due("count(4)", x.count(4), 200);
        Checks.State full = new Checks.State(Checks.padded("n19,11;n0,0;", 200), y -> y.put(3, 3), y -> y.keep());
        CHECKS.unchanged(full, "write(59) behind 200", y -> y.write(';'), FULL);
        CHECKS.unchanged(full, "write(126) behind 200", y -> y.write(126), FULL);
        CHECKS.sentence("Of several the first: BAD ahead of FULL");
        CHECKS.unchanged(full, "write(31) behind 200", y -> y.write(31), BAD);
        CHECKS.unchanged(full, "write(127) behind 200", y -> y.write(127), BAD);
    }

    private static void wiping() {
        CHECKS.sentence("THE TEXT is empty: how long it was");
        ShiftedShapes x = new ShiftedShapes();
        due("wipe() of nothing", x.wipe(), 0);
        x.write('n');
        due("wipe() of one letter", x.wipe(), 1);
        due("count(4)", x.count(4), 0);
        due("fault()", x.fault(), NONE);
        Checks.write(x, Checks.padded("", 200));
        due("wipe() of 200", x.wipe(), 200);
        due("wipe() again", x.wipe(), 0);
        due("write(126) where it was full", x.write(126), 1);
        due("fault() of what is written since", x.fault(), 0);
        ShiftedShapes rich = Checks.RICH.make();
        rich.wipe();
        CHECKS.notesAre("the piece stays", rich, 0, 0, 4, 6, 4, 7, 19, 11);
        due("count(1)", rich.count(1), 2);
        due("count(2)", rich.count(2), 5);
        due("count(3)", rich.count(3), 1);
    }

    private static void itemLetters() {
        CHECKS.sentence("ITEMS one behind the other, each a letter, then numbers");
        for (char letter = 32; letter <= 126; letter++) {
            soundIf(letter == 'n', letter + "1,1;");
            soundIf(letter == 'm', letter + "1;");
        }
        for (String text : new String[] {"n;", "n,;", "n1;", "n1,;", "n,1;", "n1,1,;", "n1,1,1;", "n,1,1;", "n1,,1;", "m;", "m1,;",
            "m1,1;", "m,1;", "mm1;", "nm1;", "nn1,1;", "n1,1n2,2;", "1,1;", ";", ","}) {
            faultIs(text, 0);
        }
        faultIs("n1,1;;", 5);
        faultIs("n1,1; n2,2;", 5);
        faultIs("n1,1;,n2,2;", 5);
        faultIs("n1,1;m1;;", 8);
    }

    private static void everyLetterAtEveryPlaceOfAnItem() {
        CHECKS.sentence("numbers (one or two figures) parted by , and a ; behind the last one");
        for (char letter = 32; letter <= 126; letter++) {
            boolean figure = letter >= '0' && letter <= '9';
            soundIf(figure, "n" + letter + ",1;");
            soundIf(figure, "n1" + letter + ",1;");
            soundIf(letter == ',', "n1" + letter + "1;");
            soundIf(figure, "n1," + letter + ";");
            faultIs("n1,1" + letter + ";", letter == '0' || letter == '1' ? NONE : letter == ';' ? 5 : 0);
            soundIf(letter == ';', "n1,1" + letter);
            soundIf(letter >= '0' && letter <= '2', "m" + letter + ";");
            soundIf(letter == ';', "m1" + letter);
        }
    }

    private static void figures() {
        CHECKS.sentence("numbers (one or two figures)");
        String[] one = {"0", "00", "000", "0000"};
        for (String zeros : one) {
            boolean sound = zeros.length() <= 2;
            soundIf(sound, "n" + zeros + ",5;");
            soundIf(sound, "n5," + zeros + ";");
            soundIf(sound, "m" + zeros + ";");
        }
        soundIf(true, "n09,09;");
        soundIf(false, "n009,9;");
        soundIf(false, "n9,009;");
        soundIf(false, "m002;");
        soundIf(false, "n100,1;");
        soundIf(false, "n1,100;");
        soundIf(false, "n4294967296,1;");
        soundIf(false, "n1,4294967296;");
        soundIf(false, "n-1,1;");
        soundIf(false, "n1,-1;");
        soundIf(false, "n+1,1;");
        soundIf(false, "m-0;");
        ShiftedShapes x = Checks.laid("n07,03;m02;");
        CHECKS.notesAre("two figures are the same number", x, 7, 3);
        due("count(1)", x.count(1), 2);
    }

    private static void timesAndPitchesOfTheText() {
        CHECKS.sentence("A NOTE has a TIME (0 to 19) and a PITCH (0 to 11)");
        for (int number = 0; number <= 99; number++) {
            soundIf(number <= 19, "n" + number + ",0;");
            soundIf(number <= 19, "n" + number + ",11;");
            soundIf(number <= 11, "n0," + number + ";");
            soundIf(number <= 11, "n19," + number + ";");
        }
        ShiftedShapes x = Checks.laid("n19,11;n0,0;n0,11;n19,0;");
        CHECKS.notesAre("the corners", x, 0, 0, 0, 11, 19, 0, 19, 11);
    }

    private static void modesOfTheText() {
        CHECKS.sentence("MODE M (0 JUST, 1 ROUND, 2 NEAR");
        for (int number = 0; number <= 99; number++) {
            soundIf(number <= 2, "m" + number + ";");
        }
        faultIs("n1,1;m3;", 5);
        faultIs("n1,1;m2;m3;", 8);
    }

    private static void noTwoAlikeInTheText() {
        CHECKS.sentence("no two are alike");
        faultIs("n1,1;n1,1;", 5);
        faultIs("n1,1;n01,01;", 5);
        faultIs("n1,1;n2,2;m1;n1,1;n3,3;", 13);
        faultIs("n1,2;n2,1;", NONE);
        faultIs("n1,1;n1,2;n2,1;n2,2;", NONE);
        faultIs("n0,11;n1,0;", NONE);
        faultIs("m1;m1;", NONE);
        CHECKS.unchanged(new Checks.State("n5,5;", x -> x.mode(1), x -> x.keep(), x -> Checks.rewrite(x, "n1,1;n2,2;n1,1;")),
            "lay() of two alike", x -> x.lay(), NO);
    }

    private static void fourteenInTheText() {
        CHECKS.sentence("14 at most");
        faultIs(FOURTEEN, NONE);
        faultIs(FOURTEEN + "n0,0;", FOURTEEN.length());
        faultIs(FOURTEEN + "n1,0;", FOURTEEN.length());
        faultIs(FOURTEEN + "m1;", NONE);
        faultIs(FOURTEEN + "m1;n19,11;", FOURTEEN.length() + 3);
        faultIs("n0,0;" + FOURTEEN, FOURTEEN.length());
        due("lay() of 14", Checks.laid(FOURTEEN).count(0), 14);
        CHECKS.unchanged(new Checks.State("n5,5;", x -> x.mode(1), x -> Checks.rewrite(x, FOURTEEN + "n0,0;")),
            "lay() of 15", x -> x.lay(), NO);
    }

    private static void theFirstFault() {
        CHECKS.sentence("FAULT: the place of the first letter of the first ITEM that is not so");
        faultIs("x", 0);
        faultIs("n20,0;n0,12;m3;", 0);
        faultIs("n0,0;n0,12;m3;x", 5);
        faultIs("n0,0;n0,0;m3;x", 5);
        faultIs("n0,0;m0;m3;n0,0;", 8);
        faultIs("n19,11;m2;n1,1;n1,1;n20,1;", 15);
        faultIs("n1,1", 0);
        faultIs("n1,1;n12,1", 5);
        faultIs("n1,1;n12,11:", 5);
        CHECKS.unchanged(Checks.RICH, "fault()", x -> x.fault(), NONE);
        CHECKS.unchanged(new Checks.State("n5,5;", x -> x.write('x')), "fault()", x -> x.fault(), 5);
    }

    private static void faultAtTheEndOfTheText() {
        CHECKS.sentence("FAULT; A TEXT is letters (200 at most)");
        faultIs("", NONE);
        faultIs(Checks.padded("", 200), NONE);
        faultIs(Checks.padded("", 199) + "n", 199);
        faultIs(Checks.padded("", 199) + ";", 199);
        faultIs(Checks.padded("", 198) + "m1", 198);
        faultIs(Checks.padded("", 195) + "n19,1", 195);
        faultIs(Checks.padded("", 195) + "n9,1;", NONE);
        faultIs("x" + Checks.padded("", 199), 0);
    }

    private static void faultLetterByLetter() {
        CHECKS.sentence("FAULT. NONE: of a text that grows");
        String text = "n12,11;m2;n0,0;";
        int[] starts = {0, 0, 0, 0, 0, 0, NONE, 7, 7, NONE, 10, 10, 10, 10, NONE};
        ShiftedShapes x = new ShiftedShapes();
        due("fault() of nothing", x.fault(), NONE);
        for (int i = 0; i < text.length(); i++) {
            x.write(text.charAt(i));
            due("fault() of " + text.substring(0, i + 1), x.fault(), starts[i]);
        }
    }

    private static void layingNeedsANote() {
        CHECKS.sentence("LAID is a TEXT without FAULT, of a NOTE at least (NO else)");
        CHECKS.unchanged(new Checks.State("n5,5;n6,6;", x -> x.mode(2), x -> x.keep(), x -> x.wipe()),
            "lay() of nothing", x -> x.lay(), NO);
        for (String modes : new String[] {"m0;", "m1;", "m2;m1;", Checks.padded("", 200)}) {
            CHECKS.unchanged(new Checks.State("n5,5;n6,6;", x -> x.mode(2), x -> x.keep(), x -> Checks.rewrite(x, modes)),
                "lay() of " + modes, x -> x.lay(), NO);
        }
        ShiftedShapes x = new ShiftedShapes();
        Checks.rewrite(x, "n19,11;");
        due("lay() of one note", x.lay(), 1);
        CHECKS.notesAre("laid", x, 19, 11);
        Checks.rewrite(x, Checks.padded(FOURTEEN, 200));
        due("lay() of 14 notes in 200 letters", x.lay(), 14);
        due("note(13, 0)", x.note(13, 0), 2);
        due("note(13, 1)", x.note(13, 1), 1);
    }

    private static void layingWithAFault() {
        CHECKS.sentence("LAID is a TEXT without FAULT (NO else); nothing changes then");
        for (String text : new String[] {"x", "n1,1", "n1,1;n2,2;n3,3", "n1,1;m3;", "m1;n20,1;n2,2;", "n1,12;", "n1,1;;",
            "m2;n1,1;n1,1;"}) {
            CHECKS.unchanged(new Checks.State("n5,5;n6,6;", x -> x.put(0, 11), x -> x.keep(), x -> x.mode(1),
                x -> Checks.rewrite(x, text)), "lay() of " + text, x -> x.lay(), NO);
        }
    }

    private static void layingLeavesNothingUndoneOrKept() {
        CHECKS.sentence("LAID: how many NOTES; nothing UNDONE, KEPT; THE TEXT stays");
        ShiftedShapes x = Checks.RICH.make();
        x.keep();
        due("count(3)", x.count(3), 2);
        due("lay()", x.lay(), 2);
        due("count(2)", x.count(2), 0);
        due("count(3)", x.count(3), 0);
        due("undo()", x.undo(), NO);
        due("back()", x.back(), NO);
        CHECKS.notesAre("laid", x, 7, 7, 8, 8);
        due("count(4)", x.count(4), 13);
        due("fault()", x.fault(), NONE);
        x.take(0);
        due("lay() of the text that stayed", x.lay(), 2);
        CHECKS.notesAre("laid again", x, 7, 7, 8, 8);
        due("undo()", x.undo(), NO);
        due("keep(), room for two again", x.keep(), 1);
        due("keep()", x.keep(), 2);
    }

    private static void theModeThatIsLaid() {
        CHECKS.sentence("MODE M (0 without; the last one)");
        String[] texts = {"n5,5;", "m0;n5,5;", "m1;n5,5;", "n5,5;m2;", "m1;n5,5;m2;", "m2;n5,5;m1;", "m2;m1;n5,5;m0;"};
        int[] modes = {0, 0, 1, 2, 2, 1, 0};
        for (int i = 0; i < texts.length; i++) {
            ShiftedShapes x = Checks.laid("n6,6;");
            Checks.rewrite(x, texts[i]);
            x.lay();
            due("count(1), " + texts[i] + " laid", x.count(1), modes[i]);
            Checks.rewrite(x, "n5,5;");
            x.lay();
            due("count(1), a text without a mode laid behind it", x.count(1), 0);
            x.mode(2);
            x.better(0);
            x.day(0, 1, 0);
            x.lay();
            due("count(1), laid behind mode(2)", x.count(1), 0);
        }
        CHECKS.sentence("nothing changes then: a text that is refused leaves no mode behind it");
        ShiftedShapes x = Checks.laid("n5,5;");
        Checks.rewrite(x, "m2;n5,5;n");
        due("lay()", x.lay(), NO);
        Checks.rewrite(x, "n5,5;");
        due("lay()", x.lay(), 1);
        due("count(1)", x.count(1), 0);
    }

    private static void numberedByTimeThenPitch() {
        CHECKS.sentence("they are numbered by TIME, then PITCH");
        CHECKS.notesAre("laid", Checks.laid("n2,0;n1,11;n1,0;n0,11;n19,1;n1,2;n2,1;n19,0;"),
            0, 11, 1, 0, 1, 2, 1, 11, 2, 0, 2, 1, 19, 0, 19, 1);
    }

    private static void notesThatThereAre() {
        CHECKS.sentence("Of a NOTE: TIME (what = 0), PITCH (1). BAD");
        Checks.State one = new Checks.State("n19,11;");
        due("note(0, 0)", one.make().note(0, 0), 19);
        due("note(0, 1)", one.make().note(0, 1), 11);
        CHECKS.unchanged(one, "note(1, 0) of one", x -> x.note(1, 0), BAD);
        CHECKS.unchanged(one, "note(-1, 0) of one", x -> x.note(-1, 0), BAD);
        Checks.State full = new Checks.State(FOURTEEN);
        due("note(13, 0) of 14", full.make().note(13, 0), 2);
        due("note(13, 1) of 14", full.make().note(13, 1), 1);
        CHECKS.unchanged(full, "note(14, 0) of 14", x -> x.note(14, 0), BAD);
        int[][] bad = {{4, 0}, {4, 1}, {-1, 0}, {-1, 1}, {0, -1}, {0, 2}, {3, 2}, {3, -1}, {4, 2}, {LEAST, 0}, {MOST, 1}, {0, LEAST},
            {0, MOST}};
        for (int[] b : bad) {
            CHECKS.unchanged(Checks.RICH, "note(" + b[0] + ", " + b[1] + ")", x -> x.note(b[0], b[1]), BAD);
        }
        CHECKS.unchanged(Checks.RICH, "note(3, 0)", x -> x.note(3, 0), 19);
        CHECKS.unchanged(Checks.RICH, "note(3, 1)", x -> x.note(3, 1), 11);
        ShiftedShapes x = Checks.laid("n1,1;n2,2;");
        x.take(0);
        due("note(1, 0) behind take(0)", x.note(1, 0), BAD);
        x.undo();
        due("note(1, 0) behind undo()", x.note(1, 0), 2);
    }
}
