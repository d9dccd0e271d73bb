import java.util.ArrayList;
import java.util.List;

/** What the boundary tests share: answers counted by sentence, and refused calls tried on one of two objects alike. */
final class Checks {
    static final int BAD = -1, NO = -2, FULL = -3, NONE = -4;
    static final int LEAST = Integer.MIN_VALUE, MOST = Integer.MAX_VALUE;

    static final String FOURTEEN =
        "n1,0;n1,1;n1,2;n1,3;n1,4;n1,5;n1,6;n1,7;n1,8;n1,9;n1,10;n1,11;n2,0;n2,1;";

    interface Call {
        int on(ShiftedShapes x);
    }

    /** A text that is laid and calls behind it: it can be made as often as it is needed. */
    static final class State {
        private final String text;
        private final List<Call> calls;

        State(String text, Call... calls) {
            this.text = text;
            this.calls = List.of(calls);
        }

        ShiftedShapes make() {
            ShiftedShapes x = new ShiftedShapes();
            write(x, text);
            if (x.lay() < 0) {
                throw new IllegalStateException("the test's own piece is not laid: " + text);
            }
            for (Call call : calls) {
                if (call.on(x) < 0) {
                    throw new IllegalStateException("a call on the test's own piece is refused: " + text);
                }
            }
            return x;
        }
    }

    /** Five acts to be undone, a piece kept, mode near, and a text that is another piece; notes 0,0 4,6 4,7 19,11. */
    static final State RICH = new State("n3,5;n4,7;n9,9;", x -> x.put(0, 0), x -> x.keep(), x -> x.mode(2),
        x -> x.put(19, 11), x -> x.shift(1, 1, 1), x -> x.take(3), x -> rewrite(x, "m1;n7,7;n8,8;"));

    // a broken undo or back that never answers NO must not hold the test up
    private static final int MOST_SEEN = 2000;

    private int answers = 0;
    private int wrong = 0;
    private String sentence = "";

    /** The words of the document that the answers due behind this hold to. */
    void sentence(String words) {
        sentence = words;
    }

    void due(String call, int got, int want) {
        answers++;
        if (got != want) {
            fail(call + " answered " + got + ", due is " + want);
        }
    }

    private void fail(String how) {
        wrong++;
        System.out.println("'" + sentence + "': " + how);
    }

    void end() {
        System.out.println(answers + " answers, " + wrong + " wrong");
        if (wrong != 0) {
            System.exit(1);
        }
    }

    static ShiftedShapes laid(String text) {
        return new State(text).make();
    }

    static int write(ShiftedShapes x, String text) {
        int length = 0;
        for (int i = 0; i < text.length(); i++) {
            length = x.write(text.charAt(i));
        }
        return length;
    }

    static int rewrite(ShiftedShapes x, String text) {
        x.wipe();
        return write(x, text);
    }

    /** A text made longer, to just so many letters, by items that say mode 0. */
    static String padded(String text, int length) {
        StringBuilder longer = new StringBuilder(text);
        while (longer.length() < length) {
            longer.append((length - longer.length()) % 3 == 0 ? "m0;" : "m00;");
        }
        if (longer.length() != length) {
            throw new IllegalStateException("no items of 3 and 4 letters fill it");
        }
        return longer.toString();
    }

    void notesAre(String when, ShiftedShapes x, int... timesAndPitches) {
        due(when + ", count(0)", x.count(0), timesAndPitches.length / 2);
        for (int i = 0; i < timesAndPitches.length / 2; i++) {
            due(when + ", note(" + i + ", 0)", x.note(i, 0), timesAndPitches[2 * i]);
            due(when + ", note(" + i + ", 1)", x.note(i, 1), timesAndPitches[2 * i + 1]);
        }
    }

    /** The call answers this, and all that the object shows from then on is as if it had not been called. */
    void unchanged(State state, String name, Call call, int want) {
        ShiftedShapes asked = state.make();
        due(name, call.on(asked), want);
        answers++;
        List<Integer> is = all(asked);
        List<Integer> was = all(state.make());
        if (!is.equals(was)) {
            fail(name + " changed something: " + was + " came to be " + is);
        }
    }

    /** Of an object all that can be seen, what lies under undo, back and the text too; the object is used up by it. */
    private static List<Integer> all(ShiftedShapes x) {
        ArrayList<Integer> seen = new ArrayList<>();
        for (int what = 2; what <= 4; what++) {
            seen.add(x.count(what));
        }
        seen.add(x.fault());
        seen.add(x.shapes(0));
        seen.add(x.shapes(2));
        seen.add(x.best(1));
        seen.add(x.parting(2));
        seen.add(x.better(0));
        addPiece(seen, x);
        for (int left = x.undo(); left != NO && seen.size() < MOST_SEEN; left = x.undo()) {
            seen.add(left);
            addPiece(seen, x);
        }
        for (int left = x.back(); left != NO && seen.size() < MOST_SEEN; left = x.back()) {
            seen.add(left);
            addPiece(seen, x);
        }
        seen.add(x.lay());
        addPiece(seen, x);
        seen.add(x.wipe());
        return seen;
    }

    /** What was found of the piece ahead of a change is not told behind it. */
    void foundAnew(State state, String name, Call change) {
        ShiftedShapes asked = state.make();
        found(asked);
        due(name + " twice alike", change.on(asked), change.on(state.make()));
        ShiftedShapes first = state.make();
        change.on(first);
        answers++;
        List<Integer> is = found(asked);
        List<Integer> was = found(first);
        if (!is.equals(was)) {
            fail("behind " + name + " there is still what was found ahead of it: " + is + ", not " + was);
        }
    }

    private static List<Integer> found(ShiftedShapes x) {
        ArrayList<Integer> seen = new ArrayList<>();
        for (int what = 0; what <= 2; what++) {
            seen.add(x.shapes(what));
            seen.add(x.best(what));
            seen.add(x.parting(what));
            seen.add(x.parted(0, what));
            seen.add(x.better(what));
            seen.add(x.link(0, 1, what));
            seen.add(x.day(3, 5, what));
        }
        for (int k = 0; k < 5; k++) {
            for (int what = 0; what <= 3; what++) {
                seen.add(x.shape(k, what));
            }
        }
        seen.add(x.largest(1, 1));
        seen.add(x.meets(0, 1, 1));
        seen.add(x.place(1, -1));
        seen.add(x.place(1, 0));
        return seen;
    }

    private static void addPiece(List<Integer> seen, ShiftedShapes x) {
        int notes = x.count(0);
        seen.add(notes);
        seen.add(x.count(1));
        for (int n = 0; n < notes; n++) {
            seen.add(100 * x.note(n, 0) + x.note(n, 1));
        }
    }
}
