import java.util.ArrayList;
import java.util.List;

/** The whole drawer once more, in the plainest form, for good arguments and bad ones. */
final class Model {
    static final int NONE = -1, BAD = -2, STATE = -3, FULL = -4;

    static final class Person {
        int name, place, first = 0, last = 9999;
        final List<Integer> known = new ArrayList<>();
    }

    static final class Letter {
        int kind, from, to, place, least = 0, greatest = 9999, weekday = NONE, found = NONE;
        String text = "";
        List<TextModel.Part> parts = List.of();
    }

    private final List<Person> persons = new ArrayList<>();
    private final List<Letter> letters = new ArrayList<>();
    private final List<int[]> bounds = new ArrayList<>();
    private final List<int[]> hands = new ArrayList<>();
    private final int[][][] posts = new int[6][6][];
    private final int[][] trays = new int[4][];
    private String tape = "";
    private int faultKind = 0, faultPlace = NONE;

    Model() {
        for (int i = 0; i < 36; i++) {
            posts[i / 6][i % 6] = i / 6 == i % 6 ? new int[] {0, 2} : new int[] {1, 30};
        }
    }

    private static boolean in(int v, int least, int greatest) {
        return v >= least && v <= greatest;
    }

    private boolean isLetter(int v) {
        return in(v, 0, letters.size() - 1);
    }

    private boolean isPerson(int v) {
        return in(v, 0, persons.size() - 1);
    }

    int person(int name, int place) {
        if (!in(name, 1, 99) || !in(place, 0, 5)) return BAD;
        if (persons.size() == 10) return FULL;
        Person p = new Person();
        p.name = name;
        p.place = place;
        persons.add(p);
        return persons.size() - 1;
    }

    int lived(int person, int first, int last) {
        if (!isPerson(person) || !in(first, 0, 9999) || !in(last, 0, 9999)) return BAD;
        persons.get(person).first = first;
        persons.get(person).last = last;
        return 1;
    }

    int knows(int a, int b, boolean is) {
        if (!isPerson(a) || !isPerson(b)) return BAD;
        List<Integer> known = persons.get(a).known;
        if (known.contains(b) == is) return 0;
        if (is) known.add(b); else known.remove((Integer) b);
        return 1;
    }

    int letter(int kind, int from, int to, int place) {
        if (!in(kind, 0, 5) || !isPerson(from) || !isPerson(to) || !in(place, 0, 5)) return BAD;
        if (letters.size() == 12) return FULL;
        Letter l = new Letter();
        l.kind = kind;
        l.from = from;
        l.to = to;
        l.place = place;
        letters.add(l);
        return letters.size() - 1;
    }

    int told(int letter, int what) {
        if (!isLetter(letter) || !in(what, 0, 8)) return BAD;
        Letter l = letters.get(letter);
        return new int[] {l.kind, l.from, l.to, l.place, l.least, l.greatest, l.weekday, l.found, l.text.length()}[what];
    }

    int days(int letter, int least, int most) {
        if (!isLetter(letter) || !in(least, 0, 9999) || !in(most, 0, 9999) || least > most) return BAD;
        letters.get(letter).least = least;
        letters.get(letter).greatest = most;
        return 1;
    }

    int week(int letter, int day) {
        if (!isLetter(letter) || !in(day, -1, 6)) return BAD;
        letters.get(letter).weekday = day;
        return 1;
    }

    int bound(int a, int b, int d) {
        if (!isLetter(a) || !isLetter(b) || a == b || !in(d, -500, 500)) return BAD;
        if (bounds.size() == 20) return FULL;
        bounds.add(new int[] {a, b, d});
        return bounds.size();
    }

    int loose() {
        if (bounds.isEmpty()) return STATE;
        bounds.remove(bounds.size() - 1);
        return bounds.size();
    }

    int found(int lost, int letter) {
        if (!isLetter(lost) || !isLetter(letter) || letters.get(lost).kind != 4 || letters.get(letter).kind == 4) return BAD;
        if (letters.get(lost).found != NONE) return STATE;
        letters.get(lost).found = letter;
        return 1;
    }

    int lose(int lost) {
        if (!isLetter(lost)) return BAD;
        if (letters.get(lost).found == NONE) return STATE;
        letters.get(lost).found = NONE;
        return 1;
    }

    /** The bounds with FOUND told as two bounds of 0. */
    private List<int[]> withFound(List<int[]> some) {
        List<int[]> all = new ArrayList<>(some);
        for (int i = 0; i < letters.size(); i++) {
            int other = letters.get(i).found;
            if (other != NONE) {
                all.add(new int[] {i, other, 0});
                all.add(new int[] {other, i, 0});
            }
        }
        return all;
    }

    private boolean suits(int letter, int day) {
        int weekday = letters.get(letter).weekday;
        return weekday == NONE || day % 7 == weekday;
    }

    /** The least (sign 1) or greatest (sign -1) days of all, moved by single days; null: none. */
    private int[] ends(List<int[]> some, int sign) {
        List<int[]> all = withFound(some);
        int[] at = new int[letters.size()];
        for (int i = 0; i < at.length; i++) {
            at[i] = sign > 0 ? letters.get(i).least : letters.get(i).greatest;
        }
        for (boolean moved = true; moved;) {
            moved = false;
            for (int i = 0; i < at.length; i++) {
                while (!suits(i, at[i]) || tooNear(all, at, i, sign)) {
                    at[i] += sign;
                    moved = true;
                    if (at[i] < letters.get(i).least || at[i] > letters.get(i).greatest) return null;
                }
            }
        }
        return at;
    }

    private static boolean tooNear(List<int[]> all, int[] at, int letter, int sign) {
        for (int[] bound : all) {
            if (bound[sign > 0 ? 1 : 0] == letter && at[bound[1]] - at[bound[0]] < bound[2]) return true;
        }
        return false;
    }

    private boolean clashes(List<int[]> some) {
        return ends(some, 1) == null;
    }

    int span(int letter, int what) {
        if (!isLetter(letter) || !in(what, 0, 1)) return BAD;
        int[] at = ends(bounds, what == 0 ? 1 : -1);
        return at == null ? NONE : at[letter];
    }

    int clash() {
        if (!clashes(bounds)) return NONE;
        boolean[] out = new boolean[bounds.size()];
        for (int k = bounds.size() - 1; k >= 0; k--) {
            out[k] = true;
            List<int[]> rest = new ArrayList<>();
            for (int i = 0; i < out.length; i++) {
                if (!out[i]) rest.add(bounds.get(i));
            }
            out[k] = clashes(rest);
        }
        int bits = 0;
        for (int k = 0; k < out.length; k++) {
            bits |= out[k] ? 0 : 1 << k;
        }
        return bits;
    }

    int before(int a, int b) {
        if (!isLetter(a) || !isLetter(b) || a == b) return BAD;
        if (clashes(bounds)) return 0;
        return isBefore(a, b, ends(bounds, 1), ends(bounds, -1)) ? 1 : 0;
    }

    private boolean isBefore(int a, int b, int[] lows, int[] highs) {
        return highs[a] < lows[b] || leads(withFound(bounds), a, b, 0, new boolean[letters.size()]);
    }

    /** Whether some way without a round leads to b with more than 0 in all. */
    private boolean leads(List<int[]> all, int at, int b, int sum, boolean[] seen) {
        if (at == b) return sum > 0;
        seen[at] = true;
        for (int[] bound : all) {
            if (bound[0] == at && !seen[bound[1]] && leads(all, bound[1], b, sum + bound[2], seen)) return true;
        }
        seen[at] = false;
        return false;
    }

    int post(int from, int to, int least, int most) {
        if (!in(from, 0, 5) || !in(to, 0, 5) || !in(least, 0, 400) || !in(most, 0, 400) || least > most) return BAD;
        posts[from][to] = new int[] {least, most};
        return 1;
    }

    int read(int letter, int person, int day, int what) {
        if (!isLetter(letter) || !isPerson(person) || !in(day, 0, 9999) || !in(what, 0, 1)) return BAD;
        int[] at = ends(bounds, what == 0 ? 1 : -1);
        Letter l = letters.get(letter);
        if (at == null || l.kind == 1) return 0;
        if (l.kind == 5 ? person == l.from : person != l.to) return 0;
        return at[letter] + posts[l.place][persons.get(person).place][what] <= day ? 1 : 0;
    }

    int reads(int person, int day, int what) {
        if (!isPerson(person) || !in(day, 0, 9999) || !in(what, 0, 1)) return BAD;
        int sum = 0;
        for (int i = 0; i < letters.size(); i++) {
            sum += read(i, person, day, what);
        }
        return sum;
    }

    private List<Integer> meant(int letter, int name) {
        List<Integer> row = new ArrayList<>();
        for (int[] hand : hands) {
            if (hand[0] == letter && hand[1] == name) return List.of(hand[2]);
        }
        int[] lows = ends(bounds, 1), highs = ends(bounds, -1);
        for (int p = 0; p < persons.size(); p++) {
            Person q = persons.get(p);
            boolean known = persons.get(letters.get(letter).from).known.contains(p);
            boolean alive = false;
            for (int day = q.first; day <= q.last; day++) {
                alive |= lows == null || in(day, lows[letter], highs[letter]);
            }
            if (q.name == name && known && alive) row.add(p);
        }
        return row;
    }

    int means(int letter, int name) {
        return !isLetter(letter) || !in(name, 1, 99) ? BAD : meant(letter, name).size();
    }

    int who(int letter, int name) {
        if (!isLetter(letter) || !in(name, 1, 99)) return BAD;
        List<Integer> row = meant(letter, name);
        return row.size() == 1 ? row.get(0) : NONE;
    }

    int hand(int letter, int name, int person) {
        if (!isLetter(letter) || !in(name, 1, 99) || !isPerson(person)) return BAD;
        for (int[] hand : hands) {
            if (hand[0] == letter && hand[1] == name) {
                hand[2] = person;
                return hands.size();
            }
        }
        if (hands.size() == 10) return FULL;
        hands.add(new int[] {letter, name, person});
        return hands.size();
    }

    int feed(int n, long bytes) {
        if (!in(n, 1, 8)) return BAD;
        if (tape.length() + n > 160) return FULL;
        for (int i = 0; i < n; i++) {
            tape += (char) (bytes >> 8 * i & 255);
        }
        return tape.length();
    }

    int text(int letter) {
        if (!isLetter(letter)) return BAD;
        String told = tape;
        tape = "";
        faultKind = 0;
        faultPlace = NONE;
        try {
            List<TextModel.Part> parts = TextModel.parse(told);
            List<TextModel.Part> notes = new ArrayList<>();
            TextModel.notes(parts, notes);
            for (TextModel.Part part : notes) {
                if (part.number() >= letters.size()) {
                    faultKind = 2;
                    faultPlace = part.place();
                    return -22;
                }
            }
            letters.get(letter).text = told;
            letters.get(letter).parts = parts;
            return told.length();
        } catch (TextModel.Fault fault) {
            faultKind = 1;
            faultPlace = fault.place;
            return -21;
        }
    }

    int fault(int what) {
        return what == 0 ? faultKind : what == 1 ? faultPlace : BAD;
    }

    private String print0(int letter, int day, int way) {
        if (!isLetter(letter) || !in(day, 0, 9999) || !in(way, 0, 1)) return null;
        List<TextModel.Part> parts = letters.get(letter).parts;
        return way == 0 ? TextModel.plain(parts, day) : TextModel.printed(parts, day);
    }

    int print(int letter, int day, int way) {
        String out = print0(letter, day, way);
        return out == null ? BAD : out.length();
    }

    int printed(int letter, int day, int way, int i) {
        String out = print0(letter, day, way);
        return out == null ? BAD : in(i, 0, out.length() - 1) ? out.charAt(i) : NONE;
    }

    int words(int letter) {
        return isLetter(letter) ? TextModel.words(letters.get(letter).parts).size() : BAD;
    }

    int differ(int a, int b) {
        if (!isLetter(a) || !isLetter(b)) return BAD;
        return TextModel.differ(TextModel.words(letters.get(a).parts), TextModel.words(letters.get(b).parts));
    }

    int note(int letter, int i) {
        if (!isLetter(letter)) return BAD;
        List<TextModel.Part> notes = new ArrayList<>();
        TextModel.notes(letters.get(letter).parts, notes);
        return in(i, 0, notes.size() - 1) ? notes.get(i).number() : NONE;
    }

    private List<Integer> bestRow;
    private int bestJumps;

    private boolean arrange(int set) {
        bestRow = null;
        bestJumps = Integer.MAX_VALUE;
        if (clashes(bounds)) return false;
        int[] lows = ends(bounds, 1), highs = ends(bounds, -1);
        boolean[][] before = new boolean[12][12];
        for (int a = 0; a < letters.size(); a++) {
            for (int b = 0; b < letters.size(); b++) {
                before[a][b] = a != b && isBefore(a, b, lows, highs);
            }
        }
        tryRows(set, new ArrayList<>(), 0, lows, before);
        return true;
    }

    /** All orders, the lesser letters first: so the first of the best is the one that is due. */
    private void tryRows(int left, List<Integer> row, int jumps, int[] lows, boolean[][] before) {
        if (left == 0) {
            if (jumps < bestJumps) {
                bestJumps = jumps;
                bestRow = new ArrayList<>(row);
            }
            return;
        }
        for (int next = 0; next < 12; next++) {
            if ((left >> next & 1) == 0) continue;
            boolean late = false;
            for (int other = 0; other < 12; other++) {
                late |= (left >> other & 1) == 1 && before[other][next];
            }
            if (late) continue;
            int jump = row.isEmpty() ? 0 : Math.abs(lows[next] - lows[row.get(row.size() - 1)]);
            row.add(next);
            tryRows(left & ~(1 << next), row, jumps + jump, lows, before);
            row.remove(row.size() - 1);
        }
    }

    private boolean isSet(int set) {
        return in(set, 0, (1 << letters.size()) - 1) && Integer.bitCount(set) <= 8;
    }

    int jumps(int set) {
        return !isSet(set) ? BAD : arrange(set) ? bestJumps : NONE;
    }

    int order(int set, int i) {
        if (!isSet(set)) return BAD;
        return arrange(set) && in(i, 0, bestRow.size() - 1) ? bestRow.get(i) : NONE;
    }

    int count(int what) {
        int lost = 0;
        for (Letter l : letters) {
            lost += l.kind == 4 && l.found == NONE ? 1 : 0;
        }
        int[] all = {persons.size(), letters.size(), bounds.size(), lost, tape.length(), hands.size()};
        return in(what, 0, 5) ? all[what] : BAD;
    }

    int tray(int tray, int n) {
        if (!in(tray, 0, 3) || n > 60) return BAD;
        if (n < -1) return -14;
        trays[tray] = n == -1 ? null : new int[n];
        return 1;
    }

    int cell(int tray, int i, int v) {
        if (!in(tray, 0, 3)) return BAD;
        if (trays[tray] == null) return -11;
        if (!in(i, 0, trays[tray].length - 1)) return -12;
        trays[tray][i] = v & 255;
        return 1;
    }

    int lay(int tray, int from, int n) {
        if (!in(tray, 0, 3) || n < 0) return BAD;
        if (trays[tray] == null) return -11;
        for (long i = from; i < (long) from + n; i++) {
            if (i < 0 || i >= trays[tray].length) return -12;
            if (tape.length() == 160) return FULL;
            tape += (char) trays[tray][(int) i];
        }
        return tape.length();
    }

    int taken(int letter, int k) {
        if (!in(k, 0, 5)) return BAD;
        if (!isLetter(letter)) return -11;
        Letter l = letters.get(letter);
        return k == 0 || k == l.kind || k == 2 && l.kind == 5 ? l.from : -13;
    }
}
