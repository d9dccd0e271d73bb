import java.util.ArrayDeque;
import java.util.ArrayList;
import java.util.HashSet;
import java.util.LinkedHashSet;
import java.util.List;
import java.util.Random;
import java.util.Set;
import java.util.regex.Matcher;
import java.util.regex.Pattern;

/**
 * Runs of drawn calls against a second program, written from the document's words with no thought of speed:
 * notes are looked for one by one, every shift is tried, covers are joined in all ways.
 */
public final class ModelTest {
    private static final int BAD = -1, NO = -2, FULL = -3, NONE = -4;
    private static final int RUNS = 120;
    private static final int CALLS = 512;

    public static void main(String[] args) {
        int wrong = 0;
        for (int run = 0; run < RUNS && wrong == 0; run++) {
            wrong = oneRun(run);
        }
        System.out.println(RUNS + " runs of " + CALLS + " calls, " + wrong + " answers wrong");
        if (wrong != 0) {
            System.exit(1);
        }
    }

    private static int oneRun(int run) {
        Random random = new Random(run * 7919L + 5);
        ShiftedShapes x = new ShiftedShapes();
        Model model = new Model();
        Caller caller = new Caller(random, run);
        ArrayList<String> told = new ArrayList<>();
        for (int i = 0; i < CALLS; i++) {
            caller.choose(model);
            int got = caller.callProgram(x);
            int want = caller.callModel(model);
            told.add(caller.told() + " = " + got);
            if (got != want) {
                System.out.println("run " + run + ", call " + i + ": " + caller.told() + " answered " + got + ", due is " + want);
                System.out.println("calls before it: " + told);
                return 1;
            }
        }
        return 0;
    }

    /** Draws a call, mostly of numbers that may be, sometimes of others. */
    private static final class Caller {
        private final Random random;
        private final int span;
        private final int height;
        private String name = "";
        private int a;
        private int b;
        private int c;
        private String pending = "";

        Caller(Random random, int run) {
            this.random = random;
            span = 4 + run % 17;
            height = 2 + run % 11;
        }

        private int number(int low, int high) {
            int odd = random.nextInt(60);
            if (odd == 0) {
                return low - 1;
            }
            if (odd == 1) {
                return high + 1;
            }
            if (odd == 2) {
                return random.nextBoolean() ? Integer.MIN_VALUE : Integer.MAX_VALUE;
            }
            return low + random.nextInt(Math.max(1, high - low + 1));
        }

        void choose(Model model) {
            if (!pending.isEmpty()) {
                set("write", pending.charAt(0), 0, 0);
                pending = pending.substring(1);
                return;
            }
            int n = model.notes.size();
            switch (random.nextInt(34)) {
                case 0: chooseText(); break;
                case 1: set("lay", 0, 0, 0); break;
                case 2: set("fault", 0, 0, 0); break;
                case 3: set("note", number(0, n - 1), number(0, 1), 0); break;
                case 4: case 5: case 6: case 7:
                    set("put", number(0, Math.min(19, span)), number(0, Math.min(11, height)), 0); break;
                case 8: case 9: set("take", number(0, n - 1), 0, 0); break;
                case 10: case 11: set("shift", number(0, n - 1), number(-3, 3), number(-2, 2)); break;
                case 12: set("shiftAll", number(-2, 2), number(-2, 2), 0); break;
                case 13: set("mode", number(0, 2), 0, 0); break;
                case 14: set("undo", 0, 0, 0); break;
                case 15: set("largest", number(-19, 19), number(-11, 11), 0); break;
                case 16: set("largest", number(-3, 3), number(-2, 2), 0); break;
                case 17: set("meets", number(0, n - 1), number(-19, 19), number(-11, 11)); break;
                case 18: set("meets", number(0, n - 1), number(-3, 3), number(-2, 2)); break;
                case 19: case 20: case 21: set("shape", number(0, model.shapes(0)), number(0, 3), 0); break;
                case 22: set("place", number(1, (1 << n) - 1), number(-1, 3), 0); break;
                case 23: set("place", 1 << random.nextInt(n) | 1 << random.nextInt(n), number(-1, 9), 0); break;
                case 24: set("best", number(0, 1), 0, 0); break;
                case 25: set("parted", number(0, 3), number(0, 2), 0); break;
                case 26: set("parting", number(0, 2), 0, 0); break;
                case 27: case 28: set("shapes", number(0, 2), 0, 0); break;
                case 29: set("link", number(0, n - 1), number(0, n - 1), number(0, 2)); break;
                case 30: chooseSeldom(); break;
                case 31: set("keep", 0, 0, 0); break;
                case 32: set("back", 0, 0, 0); break;
                default: set("count", number(0, 4), 0, 0); break;
            }
        }

        private void chooseSeldom() {
            if (random.nextInt(3) > 0) {
                set("better", number(0, 1), 0, 0);
            } else {
                set("day", number(0, 9999), number(1, 20), number(0, 2));
            }
        }

        private void chooseText() {
            set("wipe", 0, 0, 0);
            StringBuilder text = new StringBuilder();
            int items = random.nextInt(17);
            for (int i = 0; i < items; i++) {
                if (random.nextInt(8) == 0) {
                    text.append('m').append(number(0, 2)).append(';');
                } else {
                    text.append('n').append(random.nextInt(4) == 0 ? "0" : "").append(number(0, Math.min(9, span)));
                    text.append(',').append(number(0, Math.min(11, height))).append(';');
                }
            }
            if (random.nextInt(6) == 0 && text.length() > 0) {
                text.setCharAt(random.nextInt(text.length()), "nm,;0123456789 x".charAt(random.nextInt(16)));
            }
            pending = text.toString();
        }

        private void set(String called, int first, int second, int third) {
            name = called;
            a = first;
            b = second;
            c = third;
        }

        String told() {
            return name + "(" + a + ", " + b + ", " + c + ")";
        }

        int callProgram(ShiftedShapes x) {
            switch (name) {
                case "write": return x.write(a);
                case "wipe": return x.wipe();
                case "fault": return x.fault();
                case "lay": return x.lay();
                case "note": return x.note(a, b);
                case "put": return x.put(a, b);
                case "take": return x.take(a);
                case "shift": return x.shift(a, b, c);
                case "shiftAll": return x.shiftAll(a, b);
                case "mode": return x.mode(a);
                case "undo": return x.undo();
                case "largest": return x.largest(a, b);
                case "meets": return x.meets(a, b, c);
                case "shape": return x.shape(a, b);
                case "place": return x.place(a, b);
                case "best": return x.best(a);
                case "parted": return x.parted(a, b);
                case "parting": return x.parting(a);
                case "shapes": return x.shapes(a);
                case "link": return x.link(a, b, c);
                case "better": return x.better(a);
                case "day": return x.day(a, b, c);
                case "keep": return x.keep();
                case "back": return x.back();
                default: return x.count(a);
            }
        }

        int callModel(Model x) {
            switch (name) {
                case "write": return x.write(a);
                case "wipe": return x.wipe();
                case "fault": return x.fault();
                case "lay": return x.lay();
                case "note": return x.note(a, b);
                case "put": return x.put(a, b);
                case "take": return x.take(a);
                case "shift": return x.shift(a, b, c);
                case "shiftAll": return x.shiftAll(a, b);
                case "mode": return x.mode(a);
                case "undo": return x.undo();
                case "largest": return x.largest(a, b);
                case "meets": return x.meets(a, b, c);
                case "shape": return x.shape(a, b);
                case "place": return x.place(a, b);
                case "best": return x.best(a);
                case "parted": return x.parted(a, b);
                case "parting": return x.parting(a);
                case "shapes": return x.shapes(a);
                case "link": return x.link(a, b, c);
                case "better": return x.better(a);
                case "day": return x.day(a, b, c);
                case "keep": return x.keep();
                case "back": return x.back();
                default: return x.count(a);
            }
        }
    }

    private record Note(int time, int pitch) implements Comparable<Note> {
        public int compareTo(Note other) {
            return time != other.time ? time - other.time : pitch - other.pitch;
        }
    }

    private record Shift(int d, int e) { }

    private record State(List<Note> notes, int mode) { }

    /** A shape in some notes: sets are sets of notes here, not bits. */
    private record Shape(Set<Note> own, List<Shift> places, Set<Note> cover) {
        int gain() {
            return cover.size() - own.size() - places.size() + 1;
        }
    }

    private static final class Model {
        private List<Note> notes = new ArrayList<>();
        private int mode = 0;
        private String text = "";
        private ArrayDeque<State> undos = new ArrayDeque<>();
        private ArrayDeque<State> kept = new ArrayDeque<>();

        Model() {
            State first = read("n0,2;n1,4;n2,5;n4,4;n5,6;n6,7;n8,2;n9,4;n10,6;n12,0;n13,2;n14,3;n15,11;m0;");
            notes = new ArrayList<>(first.notes());
        }

        // ---- the text

        private static final Pattern ITEM = Pattern.compile("\\G(?:n(\\d{1,2}),(\\d{1,2});|m(\\d{1,2});)");

        private int faultPlace = NONE;

        private State read(String from) {
            faultPlace = NONE;
            ArrayList<Note> read = new ArrayList<>();
            int readMode = 0;
            int place = 0;
            Matcher matcher = ITEM.matcher(from);
            while (place < from.length()) {
                boolean so = matcher.find(place) && matcher.start() == place;
                if (so && matcher.group(3) != null) {
                    readMode = Integer.parseInt(matcher.group(3));
                    so = readMode <= 2;
                } else if (so) {
                    Note note = new Note(Integer.parseInt(matcher.group(1)), Integer.parseInt(matcher.group(2)));
                    so = note.time <= 19 && note.pitch <= 11 && !read.contains(note) && read.size() < 14;
                    read.add(note);
                }
                if (!so) {
                    faultPlace = place;
                    return null;
                }
                place = matcher.end();
            }
            read.sort(null);
            return new State(read, readMode);
        }

        int write(int letter) {
            if (letter < 32 || letter > 126) return BAD;
            if (text.length() == 200) return FULL;
            text += (char) letter;
            return text.length();
        }

        int wipe() {
            int was = text.length();
            text = "";
            return was;
        }

        int fault() {
            read(text);
            return faultPlace;
        }

        int lay() {
            State state = read(text);
            if (state == null || state.notes().isEmpty()) return NO;
            restore(state);
            undos.clear();
            kept.clear();
            return notes.size();
        }

        private void restore(State state) {
            notes = new ArrayList<>(state.notes());
            mode = state.mode();
        }

        private State state() {
            return new State(List.copyOf(notes), mode);
        }

        private void act() {
            undos.addLast(state());
            if (undos.size() > 8) undos.removeFirst();
        }

        private boolean isNote(int n) {
            return n >= 0 && n < notes.size();
        }

        int note(int n, int what) {
            if (!isNote(n) || what < 0 || what > 1) return BAD;
            return what == 0 ? notes.get(n).time : notes.get(n).pitch;
        }

        // ---- acts

        private static boolean inside(Note note) {
            return note.time >= 0 && note.time <= 19 && note.pitch >= 0 && note.pitch <= 11;
        }

        int put(int time, int pitch) {
            Note note = new Note(time, pitch);
            if (!inside(note)) return BAD;
            if (notes.contains(note)) return NO;
            if (notes.size() == 14) return FULL;
            act();
            notes.add(note);
            notes.sort(null);
            return notes.indexOf(note);
        }

        int take(int n) {
            if (!isNote(n)) return BAD;
            if (notes.size() == 1) return NO;
            act();
            notes.remove(n);
            return notes.size();
        }

        private static boolean farOff(int d, int e) {
            return Math.abs((long) d) > 19 || Math.abs((long) e) > 11;
        }

        int shift(int n, int d, int e) {
            if (!isNote(n) || !isShift(d, e) || d == 0 && e == 0) return BAD;
            Note to = new Note(notes.get(n).time + d, notes.get(n).pitch + e);
            if (!inside(to)) return BAD;
            if (notes.contains(to)) return NO;
            act();
            notes.set(n, to);
            notes.sort(null);
            return notes.indexOf(to);
        }

        int shiftAll(int d, int e) {
            if (!isShift(d, e) || d == 0 && e == 0) return BAD;
            ArrayList<Note> moved = new ArrayList<>();
            for (Note note : notes) moved.add(new Note(note.time + d, note.pitch + e));
            for (Note note : moved) if (!inside(note)) return BAD;
            act();
            notes = moved;
            return notes.size();
        }

        int mode(int m) {
            if (m < 0 || m > 2) return BAD;
            if (m == mode) return NO;
            act();
            int was = mode;
            mode = m;
            return was;
        }

        int undo() {
            if (undos.isEmpty()) return NO;
            restore(undos.removeLast());
            return undos.size();
        }

        // ---- shapes

        private List<Shift> allShifts() {
            ArrayList<Shift> all = new ArrayList<>();
            for (int d = -19; d <= 19; d++) {
                for (int e = mode == 1 ? 0 : -11; e <= 11; e++) all.add(new Shift(d, e));
            }
            return all;
        }

        private Note met(Note note, Shift by, Set<Note> among) {
            int pitch = note.pitch + by.e;
            int[] tries = mode == 0 ? new int[] {pitch} : mode == 1 ? new int[] {(pitch + 24) % 12}
                : new int[] {pitch, pitch - 1, pitch + 1};
            for (int p : tries) {
                Note to = new Note(note.time + by.d, p);
                if (among.contains(to)) return to;
            }
            return null;
        }

        private Set<Note> largest(Shift by, Set<Note> among) {
            LinkedHashSet<Note> set = new LinkedHashSet<>();
            for (Note note : among) if (met(note, by, among) != null) set.add(note);
            return set;
        }

        private List<Shift> places(Set<Note> set, Set<Note> among) {
            ArrayList<Shift> places = new ArrayList<>();
            for (Shift by : allShifts()) {
                boolean all = true;
                for (Note note : set) all = all && met(note, by, among) != null;
                if (all) places.add(by);
            }
            return places;
        }

        private List<Shape> shapesOf(Set<Note> among) {
            LinkedHashSet<Set<Note>> sets = new LinkedHashSet<>();
            for (Shift by : allShifts()) {
                if (by.d > 0 || by.d == 0 && by.e > 0) {
                    Set<Note> set = largest(by, among);
                    if (set.size() >= 2) sets.add(set);
                }
            }
            ArrayList<Shape> shapes = new ArrayList<>();
            for (Set<Note> set : sets) {
                List<Shift> places = places(set, among);
                HashSet<Note> cover = new HashSet<>();
                for (Shift by : places) for (Note note : set) cover.add(met(note, by, among));
                shapes.add(new Shape(set, places, cover));
            }
            return shapes;
        }

        private List<Note> known = null;
        private int knownMode = -1;
        private List<Shape> knownShapes = null;

        private List<Shape> shapesNow() {
            if (!notes.equals(known) || mode != knownMode) {
                known = List.copyOf(notes);
                knownMode = mode;
                knownShapes = shapesOf(new LinkedHashSet<>(notes));
            }
            return knownShapes;
        }

        private static Shape bestOf(List<Shape> shapes) {
            Shape best = null;
            for (Shape shape : shapes) {
                if (best == null || shape.gain() > best.gain()
                    || shape.gain() == best.gain() && shape.cover.size() > best.cover.size()) best = shape;
            }
            return best;
        }

        private int bits(Set<Note> set) {
            int bits = 0;
            for (Note note : set) bits += 1 << notes.indexOf(note);
            return bits;
        }

        private boolean isShift(int d, int e) {
            return !farOff(d, e) && (mode != 1 || e >= 0);
        }

        int largest(int d, int e) {
            return isShift(d, e) ? bits(largest(new Shift(d, e), new LinkedHashSet<>(notes))) : BAD;
        }

        int meets(int n, int d, int e) {
            if (!isNote(n) || !isShift(d, e)) return BAD;
            Note to = met(notes.get(n), new Shift(d, e), new LinkedHashSet<>(notes));
            return to == null ? NONE : notes.indexOf(to);
        }

        int shape(int k, int what) {
            if (k < 0 || k >= shapesNow().size() || what < 0 || what > 3) return BAD;
            Shape shape = shapesNow().get(k);
            return what == 0 ? bits(shape.own) : what == 1 ? shape.places.size() : what == 2 ? bits(shape.cover)
                : shape.gain() + 100;
        }

        int place(int set, int i) {
            if (set <= 0 || set >= 1 << notes.size() || i < -1) return BAD;
            LinkedHashSet<Note> own = new LinkedHashSet<>();
            for (int n = 0; n < notes.size(); n++) if ((set & 1 << n) != 0) own.add(notes.get(n));
            List<Shift> places = places(own, new LinkedHashSet<>(notes));
            if (i == -1) return places.size();
            return i < places.size() ? 100 * (places.get(i).d + 50) + places.get(i).e + 50 : NONE;
        }

        int best(int what) {
            if (what < 0 || what > 1) return BAD;
            Shape best = bestOf(shapesNow());
            if (best == null) return NONE;
            return what == 0 ? shapesNow().indexOf(best) : best.gain() + 100;
        }

        private List<Shape> partsOf(Set<Note> left) {
            ArrayList<Shape> parts = new ArrayList<>();
            for (Shape best = bestOf(shapesOf(left)); best != null && best.gain() > 0; best = bestOf(shapesOf(left))) {
                parts.add(best);
                left.removeAll(best.cover);
            }
            return parts;
        }

        int parted(int k, int what) {
            if (k < 0 || what < 0 || what > 2) return BAD;
            List<Shape> parts = partsOf(new LinkedHashSet<>(notes));
            if (k >= parts.size()) return NONE;
            Shape part = parts.get(k);
            return what == 0 ? bits(part.own) : what == 1 ? part.places.size() : bits(part.cover);
        }

        int parting(int what) {
            if (what < 0 || what > 2) return BAD;
            LinkedHashSet<Note> left = new LinkedHashSet<>(notes);
            List<Shape> parts = partsOf(left);
            int price = left.size();
            for (Shape part : parts) price += part.own.size() + part.places.size() - 1;
            return what == 0 ? parts.size() : what == 1 ? bits(left) : price;
        }

        int shapes(int what) {
            if (what < 0 || what > 2) return BAD;
            if (what == 0) return shapesNow().size();
            int all = 0;
            HashSet<Integer> covers = new HashSet<>();
            for (Shape shape : shapesNow()) {
                covers.add(bits(shape.cover));
                all |= bits(shape.cover);
            }
            return what == 1 ? fewest(covers, all) : (1 << notes.size()) - 1 - all;
        }

        private static int fewest(Set<Integer> covers, int all) {
            Set<Integer> joined = Set.of(0);
            int many = 0;
            while (!joined.contains(all)) {
                HashSet<Integer> more = new HashSet<>();
                for (int set : joined) for (int cover : covers) more.add(set | cover);
                joined = more;
                many++;
            }
            return many;
        }

        int link(int n, int m, int what) {
            if (!isNote(n) || !isNote(m) || n == m || what < 0 || what > 2) return BAD;
            int d = notes.get(m).time - notes.get(n).time;
            int e = notes.get(m).pitch - notes.get(n).pitch;
            if (mode == 1 && e < 0) e += 12;
            return what == 0 ? d + 50 : what == 1 ? e + 50 : Integer.bitCount(largest(d, e));
        }

        int better(int what) {
            if (what < 0 || what > 1) return BAD;
            if (notes.size() == 14) return NONE;
            int where = -1;
            int greatest = 0;
            boolean some = false;
            for (int time = 0; time < 20; time++) {
                for (int pitch = 0; pitch < 12; pitch++) {
                    if (notes.contains(new Note(time, pitch))) continue;
                    LinkedHashSet<Note> more = new LinkedHashSet<>(notes);
                    more.add(new Note(time, pitch));
                    Shape best = bestOf(shapesOf(more));
                    if (where < 0 || best != null && (!some || best.gain() > greatest)) {
                        where = 100 * time + pitch;
                        some = best != null;
                        greatest = some ? best.gain() : 0;
                    }
                }
            }
            return what == 0 ? where : some ? greatest + 100 : NONE;
        }

        // ---- days

        int day(int z, int n, int what) {
            if (z < 0 || z > 9999 || n < 1 || n > 20 || what < 0 || what > 2) return BAD;
            State before = state();
            for (int k = 0; k < n; k++) {
                long x = 7919L * z + 6151L * k + 1;
                long draw = x * x % 65521;
                Note note = new Note((int) (draw / 8 % 20), (int) (draw / 256 % 12));
                if (notes.contains(note)) {
                    if (notes.size() > 1) notes.remove(note);
                } else if (notes.size() < 14) {
                    notes.add(note);
                }
                notes.sort(null);
            }
            int answer = what == 0 ? notes.size() : what == 1 ? shapes(0) : parting(2);
            restore(before);
            return answer;
        }

        int keep() {
            if (kept.size() == 2) return FULL;
            kept.addLast(state());
            return kept.size();
        }

        int back() {
            if (kept.isEmpty()) return NO;
            restore(kept.removeLast());
            undos.clear();
            return kept.size();
        }

        int count(int what) {
            switch (what) {
                case 0: return notes.size();
                case 1: return mode;
                case 2: return undos.size();
                case 3: return kept.size();
                case 4: return text.length();
                default: return BAD;
            }
        }
    }
}
