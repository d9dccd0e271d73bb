import java.util.Arrays;

/** Shapes that come again, shifted in time and pitch, in a small piece of notes. */
public final class ShiftedShapes {
    public static final int BAD = -1, NO = -2, FULL = -3, NONE = -4;

    private static final int TIMES = 20;
    private static final int PITCHES = 12;
    private static final int MOST_NOTES = 14;
    private static final int MOST_LETTERS = 200;
    private static final int MOST_UNDONE = 8;
    private static final int MOST_KEPT = 2;

    private static final int JUST = 0;
    private static final int ROUND = 1;
    private static final int NEAR = 2;

    // a shift is held as one number, so that a plain loop goes in the order by d, then by e
    private static final int FAR_TIME = 19;
    private static final int FAR_PITCH = 11;
    private static final int SHIFTS_A_TIME = 2 * FAR_PITCH + 1;
    private static final int ALL_SHIFTS = (2 * FAR_TIME + 1) * SHIFTS_A_TIME;
    private static final int STILL = FAR_TIME * SHIFTS_A_TIME + FAR_PITCH;
    private static final int MOST_SHAPES = ALL_SHIFTS - STILL - 1;

    // below every gain that a shape can have
    private static final int NO_GAIN = -10000;

    private static final int[] FIRST_TIMES = {0, 1, 2, 4, 5, 6, 8, 9, 10, 12, 13, 14, 15};
    private static final int[] FIRST_PITCHES = {2, 4, 5, 4, 6, 7, 2, 4, 6, 0, 2, 3, 11};

    private final Script script = new Script();
    private final Piece piece = new Piece();
    private final Piece trial = new Piece();
    private final Pile undoable = new Pile(MOST_UNDONE);
    private final Pile kept = new Pile(MOST_KEPT);
    private final Search whole = new Search();
    private final Search scratch = new Search();
    private final Parting parts = new Parting();
    private final Covering covering = new Covering();

    // what was found out of the piece holds until the piece is another one
    private boolean wholeKnown;
    private boolean betterKnown;
    private int betterCode;
    private int betterGain;

    public ShiftedShapes() {
        for (int i = 0; i < FIRST_TIMES.length && i < FIRST_PITCHES.length; i++) {
            piece.insert(codeOf(FIRST_TIMES[i], FIRST_PITCHES[i]));
        }
    }

    // ---- pieces

    public int write(int letter) {
        if (letter < 32 || letter > 126) {
            return BAD;
        }
        return script.append(letter) ? script.length : FULL;
    }

    public int wipe() {
        int was = script.length;
        script.length = 0;
        return was;
    }

    public int fault() {
        return script.readInto(trial);
    }

    public int lay() {
        if (script.readInto(trial) != NONE || trial.size == 0) {
            return NO;
        }
        piece.copyFrom(trial);
        undoable.size = 0;
        kept.size = 0;
        forgetFindings();
        return piece.size;
    }

    public int note(int n, int what) {
        if (!isNote(n)) {
            return BAD;
        }
        if (what == 0) {
            return piece.timeOf(n);
        }
        return what == 1 ? piece.pitchOf(n) : BAD;
    }

    // ---- acts

    public int put(int time, int pitch) {
        if (!isWithin(time, pitch)) {
            return BAD;
        }
        if (piece.numberOf(codeOf(time, pitch)) >= 0) {
            return NO;
        }
        if (piece.size >= MOST_NOTES) {
            return FULL;
        }
        beginAct();
        return piece.insert(codeOf(time, pitch));
    }

    public int take(int n) {
        if (!isNote(n)) {
            return BAD;
        }
        if (piece.size == 1) {
            return NO;
        }
        beginAct();
        piece.remove(n);
        return piece.size;
    }

    public int shift(int n, int d, int e) {
        if (!isNote(n) || !isMove(d, e) || !staysWithin(n, d, e)) {
            return BAD;
        }
        int code = codeOf(piece.timeOf(n) + d, piece.pitchOf(n) + e);
        if (piece.numberOf(code) >= 0) {
            return NO;
        }
        beginAct();
        piece.remove(n);
        return piece.insert(code);
    }

    public int shiftAll(int d, int e) {
        if (!isMove(d, e)) {
            return BAD;
        }
        for (int n = 0; n < piece.size; n++) {
            if (!staysWithin(n, d, e)) {
                return BAD;
            }
        }
        beginAct();
        piece.moveAll(codeOf(d, e));
        return piece.size;
    }

    public int mode(int m) {
        if (m < JUST || m > NEAR) {
            return BAD;
        }
        if (m == piece.manner) {
            return NO;
        }
        beginAct();
        int was = piece.manner;
        piece.manner = m;
        return was;
    }

    public int undo() {
        if (undoable.size == 0) {
            return NO;
        }
        undoable.popInto(piece);
        forgetFindings();
        return undoable.size;
    }

    // ---- shapes

    public int largest(int d, int e) {
        return isShift(d, e) ? wholeSearch().largestOf(d, e) : BAD;
    }

    public int meets(int n, int d, int e) {
        if (!isNote(n) || !isShift(d, e)) {
            return BAD;
        }
        return wholeSearch().met(n, d, e);
    }

    public int shape(int k, int what) {
        Search search = wholeSearch();
        if (k < 0 || k >= search.shapeCount) {
            return BAD;
        }
        switch (what) {
            case 0:
                return search.shapeSets[k];
            case 1:
                return search.shapePlaces[k];
            case 2:
                return search.shapeCovers[k];
            case 3:
                return search.gainOf(k) + 100;
            default:
                return BAD;
        }
    }

    public int place(int set, int i) {
        if (set < 1 || set > piece.allNotes() || i < -1) {
            return BAD;
        }
        return i == -1 ? wholeSearch().placesOf(set) : wholeSearch().placeOf(set, i);
    }

    public int best(int what) {
        if (what < 0 || what > 1) {
            return BAD;
        }
        int k = wholeSearch().bestShape();
        if (k < 0) {
            return NONE;
        }
        return what == 0 ? k : wholeSearch().gainOf(k) + 100;
    }

    public int parted(int k, int what) {
        if (k < 0 || what < 0 || what > 2) {
            return BAD;
        }
        parts.takeApart(piece, scratch);
        if (k >= parts.size) {
            return NONE;
        }
        if (what == 0) {
            return parts.sets[k];
        }
        return what == 1 ? parts.places[k] : parts.covers[k];
    }

    public int parting(int what) {
        if (what < 0 || what > 2) {
            return BAD;
        }
        parts.takeApart(piece, scratch);
        if (what == 0) {
            return parts.size;
        }
        return what == 1 ? parts.rest : parts.price;
    }

    public int shapes(int what) {
        switch (what) {
            case 0:
                return wholeSearch().shapeCount;
            case 1:
                return covering.fewestOf(wholeSearch());
            case 2:
                return piece.allNotes() & ~wholeSearch().covered();
            default:
                return BAD;
        }
    }

    public int link(int n, int m, int what) {
        if (!isNote(n) || !isNote(m) || n == m) {
            return BAD;
        }
        int d = piece.timeOf(m) - piece.timeOf(n);
        int e = piece.pitchOf(m) - piece.pitchOf(n);
        if (piece.manner == ROUND) {
            e = Math.floorMod(e, PITCHES);
        }
        switch (what) {
            case 0:
                return d + 50;
            case 1:
                return e + 50;
            case 2:
                return Integer.bitCount(wholeSearch().largestOf(d, e));
            default:
                return BAD;
        }
    }

    public int better(int what) {
        if (what < 0 || what > 1) {
            return BAD;
        }
        if (piece.size >= MOST_NOTES) {
            return NONE;
        }
        if (!betterKnown) {
            findBetter();
        }
        if (what == 0) {
            return 100 * (betterCode / PITCHES) + betterCode % PITCHES;
        }
        return betterGain == NO_GAIN ? NONE : betterGain + 100;
    }

    // ---- days

    public int day(int z, int n, int what) {
        if (z < 0 || z > 9999 || n < 1 || n > 20 || what < 0 || what > 2) {
            return BAD;
        }
        trial.copyFrom(piece);
        for (int k = 0; k < n; k++) {
            drawOnce(z, k);
        }
        if (what == 0) {
            return trial.size;
        }
        if (what == 1) {
            scratch.lookOver(trial, trial.allNotes());
            return scratch.shapeCount;
        }
        parts.takeApart(trial, scratch);
        return parts.price;
    }

    public int keep() {
        if (kept.size >= MOST_KEPT) {
            return FULL;
        }
        kept.push(piece);
        return kept.size;
    }

    public int back() {
        if (kept.size == 0) {
            return NO;
        }
        kept.popInto(piece);
        undoable.size = 0;
        forgetFindings();
        return kept.size;
    }

    public int count(int what) {
        switch (what) {
            case 0:
                return piece.size;
            case 1:
                return piece.manner;
            case 2:
                return undoable.size;
            case 3:
                return kept.size;
            case 4:
                return script.length;
            default:
                return BAD;
        }
    }

    private void beginAct() {
        undoable.push(piece);
        forgetFindings();
    }

    private void forgetFindings() {
        wholeKnown = false;
        betterKnown = false;
    }

    private Search wholeSearch() {
        if (!wholeKnown) {
            whole.lookOver(piece, piece.allNotes());
            wholeKnown = true;
        }
        return whole;
    }

    private void findBetter() {
        betterCode = -1;
        betterGain = NO_GAIN;
        trial.copyFrom(piece);
        for (int code = 0; code < TIMES * PITCHES; code++) {
            int number = trial.numberOf(code) < 0 ? trial.insert(code) : NONE;
            if (number >= 0) {
                scratch.lookOver(trial, trial.allNotes());
                int gain = scratch.gainOf(scratch.bestShape());
                if (betterCode < 0 || gain > betterGain) {
                    betterCode = code;
                    betterGain = gain;
                }
                trial.remove(number);
            }
        }
        betterKnown = true;
    }

    private void drawOnce(int z, int k) {
        long x = 7919L * z + 6151L * k + 1;
        int draw = (int) (x * x % 65521);
        int code = codeOf(draw / 8 % TIMES, draw / 256 % PITCHES);
        int number = trial.numberOf(code);
        if (number < 0) {
            trial.insert(code);
        } else if (trial.size > 1) {
            trial.remove(number);
        }
    }

    private boolean isNote(int n) {
        return n >= 0 && n < piece.size;
    }

    private boolean isShift(int d, int e) {
        int lowest = piece.manner == ROUND ? 0 : -FAR_PITCH;
        return d >= -FAR_TIME && d <= FAR_TIME && e >= lowest && e <= FAR_PITCH;
    }

    private boolean isMove(int d, int e) {
        return isShift(d, e) && (d != 0 || e != 0);
    }

    private boolean staysWithin(int n, int d, int e) {
        return isWithin(piece.timeOf(n) + d, piece.pitchOf(n) + e);
    }

    private static boolean isWithin(int time, int pitch) {
        return time >= 0 && time < TIMES && pitch >= 0 && pitch < PITCHES;
    }

    private static int codeOf(int time, int pitch) {
        return time * PITCHES + pitch;
    }

    /** The notes by time, then pitch, each as one code, and the mode. */
    private static final class Piece {
        private final int[] codes = new int[MOST_NOTES];
        private int size;
        private int manner;

        private int timeOf(int n) {
            return n >= 0 && n < size ? codes[n] / PITCHES : NONE;
        }

        private int pitchOf(int n) {
            return n >= 0 && n < size ? codes[n] % PITCHES : NONE;
        }

        private int allNotes() {
            return (1 << size) - 1;
        }

        private int numberOf(int code) {
            for (int n = 0; n < size; n++) {
                if (codes[n] == code) {
                    return n;
                }
            }
            return NONE;
        }

        private int insert(int code) {
            if (size >= MOST_NOTES) {
                return FULL;
            }
            int n = size;
            while (n > 0 && codes[n - 1] > code) {
                codes[n] = codes[n - 1];
                n--;
            }
            codes[n] = code;
            size++;
            return n;
        }

        private void remove(int n) {
            if (n < 0 || n >= size) {
                return;
            }
            size--;
            for (int i = n; i < size; i++) {
                codes[i] = codes[i + 1];
            }
        }

        private void moveAll(int by) {
            for (int n = 0; n < size; n++) {
                codes[n] += by;
            }
        }

        private void copyFrom(Piece other) {
            System.arraycopy(other.codes, 0, codes, 0, MOST_NOTES);
            size = other.size;
            manner = other.manner;
        }
    }

    /** Pieces laid one upon the other; the oldest goes when there is no room. */
    private static final class Pile {
        private final Piece[] pieces;
        private int size;

        private Pile(int most) {
            pieces = new Piece[Math.max(most, 1)];
            for (int i = 0; i < pieces.length; i++) {
                pieces[i] = new Piece();
            }
        }

        private void push(Piece piece) {
            if (size >= pieces.length) {
                dropOldest();
            }
            pieces[size].copyFrom(piece);
            size++;
        }

        private void popInto(Piece piece) {
            if (size > 0) {
                size--;
                piece.copyFrom(pieces[size]);
            }
        }

        private void dropOldest() {
            Piece oldest = pieces[0];
            for (int i = 1; i < pieces.length; i++) {
                pieces[i - 1] = pieces[i];
            }
            pieces[pieces.length - 1] = oldest;
            size = pieces.length - 1;
        }
    }

    /** The text, and how a piece is read from it. */
    private static final class Script {
        private final int[] letters = new int[MOST_LETTERS];
        private int length;
        private int at;

        private boolean append(int letter) {
            if (length >= MOST_LETTERS) {
                return false;
            }
            letters[length] = letter;
            length++;
            return true;
        }

        /** Answers the place of the fault, or NONE; what stands ahead of the fault is in the piece. */
        private int readInto(Piece piece) {
            piece.size = 0;
            piece.manner = JUST;
            at = 0;
            for (int items = 0; items < MOST_LETTERS && at < length; items++) {
                int start = at;
                if (!readItem(piece)) {
                    return start;
                }
            }
            return NONE;
        }

        private boolean readItem(Piece piece) {
            if (skip('n')) {
                return readNote(piece);
            }
            return skip('m') && readManner(piece);
        }

        private boolean readNote(Piece piece) {
            int time = readNumber();
            if (!skip(',')) {
                return false;
            }
            int pitch = readNumber();
            if (!skip(';') || !isWithin(time, pitch) || piece.numberOf(codeOf(time, pitch)) >= 0) {
                return false;
            }
            return piece.insert(codeOf(time, pitch)) >= 0;
        }

        private boolean readManner(Piece piece) {
            int manner = readNumber();
            if (!skip(';') || manner < JUST || manner > NEAR) {
                return false;
            }
            piece.manner = manner;
            return true;
        }

        private int readNumber() {
            int value = NONE;
            for (int figures = 0; figures < 2 && isFigure(); figures++) {
                value = Math.max(value, 0) * 10 + letters[at] - '0';
                at++;
            }
            return value;
        }

        private boolean isFigure() {
            return at < length && letters[at] >= '0' && letters[at] <= '9';
        }

        private boolean skip(int letter) {
            if (at >= length || letters[at] != letter) {
                return false;
            }
            at++;
            return true;
        }
    }

    /** Of some notes of a piece, as if there were no more: the largest set of each shift, and the shapes. */
    private static final class Search {
        private final int[] times = new int[MOST_NOTES];
        private final int[] pitches = new int[MOST_NOTES];
        private final int[] numbers = new int[TIMES * PITCHES];
        private final int[] largests = new int[ALL_SHIFTS];
        private final int[] wideShifts = new int[ALL_SHIFTS];
        private int wideCount;
        private int manner;
        private int present;

        private final int[] shapeSets = new int[MOST_SHAPES];
        private final int[] shapePlaces = new int[MOST_SHAPES];
        private final int[] shapeCovers = new int[MOST_SHAPES];
        private int shapeCount;

        private void lookOver(Piece piece, int notes) {
            manner = piece.manner;
            present = notes & piece.allNotes();
            Arrays.fill(numbers, NONE);
            for (int n = 0; n < piece.size; n++) {
                times[n] = piece.timeOf(n);
                pitches[n] = piece.pitchOf(n);
                if (has(present, n)) {
                    numbers[codeOf(times[n], pitches[n])] = n;
                }
            }
            findLargests();
            findWideShifts();
            findShapes();
        }

        private static boolean has(int set, int n) {
            return (set >> n & 1) != 0;
        }

        private static boolean hasTwo(int set) {
            return (set & set - 1) != 0;
        }

        private static int shiftOf(int d, int e) {
            return (d + FAR_TIME) * SHIFTS_A_TIME + e + FAR_PITCH;
        }

        private static int timePart(int shift) {
            return shift / SHIFTS_A_TIME - FAR_TIME;
        }

        private static int pitchPart(int shift) {
            return shift % SHIFTS_A_TIME - FAR_PITCH;
        }

        private void findLargests() {
            Arrays.fill(largests, 0);
            for (int n = 0; n < MOST_NOTES; n++) {
                for (int m = 0; m < MOST_NOTES && has(present, n); m++) {
                    if (has(present, m)) {
                        enterPair(n, m);
                    }
                }
            }
        }

        private void enterPair(int n, int m) {
            int d = times[m] - times[n];
            int e = pitches[m] - pitches[n];
            if (manner == ROUND) {
                enter(n, d, Math.floorMod(e, PITCHES));
                return;
            }
            enter(n, d, e);
            if (manner == NEAR) {
                enter(n, d, e - 1);
                enter(n, d, e + 1);
            }
        }

        private void enter(int n, int d, int e) {
            if (isHeld(d, e)) {
                largests[shiftOf(d, e)] |= 1 << n;
            }
        }

        private static boolean isHeld(int d, int e) {
            return d >= -FAR_TIME && d <= FAR_TIME && e >= -FAR_PITCH && e <= FAR_PITCH;
        }

        // only these can be places of a shape, which has two notes at least
        private void findWideShifts() {
            wideCount = 0;
            for (int s = 0; s < ALL_SHIFTS; s++) {
                if (hasTwo(largests[s])) {
                    wideShifts[wideCount] = s;
                    wideCount++;
                }
            }
        }

        private void findShapes() {
            shapeCount = 0;
            for (int i = 0; i < wideCount; i++) {
                int s = wideShifts[i];
                if (s > STILL && shapeCount < MOST_SHAPES && !isShape(largests[s])) {
                    shapeSets[shapeCount] = largests[s];
                    measureShape(shapeCount);
                    shapeCount++;
                }
            }
        }

        private boolean isShape(int set) {
            for (int k = 0; k < shapeCount; k++) {
                if (shapeSets[k] == set) {
                    return true;
                }
            }
            return false;
        }

        private void measureShape(int k) {
            int set = shapeSets[k];
            int places = 0;
            int cover = 0;
            for (int i = 0; i < wideCount; i++) {
                int s = wideShifts[i];
                if ((largests[s] & set) != set) {
                    continue;
                }
                places++;
                for (int n = 0; n < MOST_NOTES; n++) {
                    int m = has(set, n) ? met(n, timePart(s), pitchPart(s)) : NONE;
                    if (m >= 0) {
                        cover |= 1 << m;
                    }
                }
            }
            shapePlaces[k] = places;
            shapeCovers[k] = cover;
        }

        private int met(int n, int d, int e) {
            if (n < 0 || n >= MOST_NOTES) {
                return NONE;
            }
            int time = times[n] + d;
            int pitch = pitches[n] + e;
            if (manner == ROUND) {
                return numberAt(time, Math.floorMod(pitch, PITCHES));
            }
            int m = numberAt(time, pitch);
            if (m < 0 && manner == NEAR) {
                m = numberAt(time, pitch - 1);
                if (m < 0) {
                    m = numberAt(time, pitch + 1);
                }
            }
            return m;
        }

        private int numberAt(int time, int pitch) {
            if (time < 0 || time >= TIMES || pitch < 0 || pitch >= PITCHES) {
                return NONE;
            }
            return numbers[time * PITCHES + pitch];
        }

        private int largestOf(int d, int e) {
            return isHeld(d, e) ? largests[shiftOf(d, e)] : 0;
        }

        private int placesOf(int set) {
            int places = 0;
            for (int s = 0; s < ALL_SHIFTS; s++) {
                if ((largests[s] & set) == set) {
                    places++;
                }
            }
            return places;
        }

        private int placeOf(int set, int i) {
            int before = 0;
            for (int s = 0; s < ALL_SHIFTS; s++) {
                if ((largests[s] & set) == set) {
                    if (before == i) {
                        return 100 * (timePart(s) + 50) + pitchPart(s) + 50;
                    }
                    before++;
                }
            }
            return NONE;
        }

        private int gainOf(int k) {
            if (k < 0 || k >= shapeCount) {
                return NO_GAIN;
            }
            return Integer.bitCount(shapeCovers[k]) - Integer.bitCount(shapeSets[k]) - shapePlaces[k] + 1;
        }

        private int bestShape() {
            int first = shapeCount > 0 ? 0 : NONE;
            for (int k = 1; k < shapeCount; k++) {
                if (isBetter(k, first)) {
                    first = k;
                }
            }
            return first;
        }

        private boolean isBetter(int k, int other) {
            int gain = gainOf(k);
            int otherGain = gainOf(other);
            if (gain != otherGain) {
                return gain > otherGain;
            }
            return Integer.bitCount(shapeCovers[k]) > Integer.bitCount(shapeCovers[other]);
        }

        private int covered() {
            int all = 0;
            for (int k = 0; k < shapeCount; k++) {
                all |= shapeCovers[k];
            }
            return all;
        }
    }

    /** A piece taken apart by its best shape, then by the best of what is left. */
    private static final class Parting {
        private final int[] sets = new int[MOST_NOTES];
        private final int[] places = new int[MOST_NOTES];
        private final int[] covers = new int[MOST_NOTES];
        private int size;
        private int rest;
        private int price;

        private void takeApart(Piece piece, Search search) {
            size = 0;
            price = 0;
            rest = piece.allNotes();
            boolean gained = true;
            for (int i = 0; i < MOST_NOTES && gained; i++) {
                search.lookOver(piece, rest);
                int k = search.bestShape();
                gained = k >= 0 && search.gainOf(k) > 0;
                if (gained) {
                    setAside(search, k);
                }
            }
            price += Integer.bitCount(rest);
        }

        private void setAside(Search search, int k) {
            if (size >= MOST_NOTES || k < 0 || k >= search.shapeCount) {
                return;
            }
            sets[size] = search.shapeSets[k];
            places[size] = search.shapePlaces[k];
            covers[size] = search.shapeCovers[k];
            price += Integer.bitCount(sets[size]) + places[size] - 1;
            rest &= ~covers[size];
            size++;
        }
    }

    /** The fewest covers that have together all that any of them has. */
    private static final class Covering {
        private final int[] covers = new int[MOST_SHAPES];
        private int size;

        private int fewestOf(Search search) {
            gather(search);
            int all = search.covered();
            for (int many = 0; many < MOST_NOTES; many++) {
                if (isReached(covers, size, all, many)) {
                    return many;
                }
            }
            return MOST_NOTES;
        }

        // a cover within another one is never needed, and leaving it out keeps the search small
        private void gather(Search search) {
            size = 0;
            for (int k = 0; k < search.shapeCount; k++) {
                if (!isWithinAnother(search, k)) {
                    covers[size] = search.shapeCovers[k];
                    size++;
                }
            }
        }

        private static boolean isWithinAnother(Search search, int k) {
            int cover = search.shapeCovers[k];
            for (int i = 0; i < search.shapeCount; i++) {
                int other = search.shapeCovers[i];
                boolean within = (cover & ~other) == 0;
                if (within && (other != cover || i < k)) {
                    return true;
                }
            }
            return false;
        }

        private static boolean isReached(int[] covers, int size, int missing, int left) {
            if (missing == 0) {
                return true;
            }
            if (left <= 0) {
                return false;
            }
            int first = missing & -missing;
            for (int i = 0; i < size; i++) {
                if ((covers[i] & first) != 0 && isReached(covers, size, missing & ~covers[i], left - 1)) {
                    return true;
                }
            }
            return false;
        }
    }
}
