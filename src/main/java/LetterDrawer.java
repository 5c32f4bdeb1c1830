/** An editor's drawer of letters: ../shared/DOC.md says what each call answers. */
public final class LetterDrawer {
    public static final int NONE = -1, BAD = -2, STATE = -3, FULL = -4;

    private static final int NOTHING = -11, OUTSIDE = -12, OTHER_SORT = -13, SIZE_BELOW_0 = -14;
    private static final int LAST_DAY = 9999;
    private static final int LAST_NAME = 99;
    private static final int PLACES = 6;
    private static final int WEEK = 7;
    private static final int LEAST_OF_TWO = 0, GREATEST_OF_TWO = 1;
    private static final int CAN = 0, MUST = 1;
    private static final int PLAIN = 0, PRINTED = 1;
    private static final int TEXT_BYTES = 160;
    private static final int LONG_BYTES = 8, BYTE_BITS = 8;

    private final People people;
    private final Letters letters;
    private final Calendar calendar;
    private final Posts posts;
    private final Hands hands;
    private final Tape tape;
    private final MarkReader reader;
    private final Printer printer;
    private final WordRow someWords;
    private final WordRow otherWords;
    private final Sequence sequence;
    private final Trays trays;
    private int faultKind;
    private int faultPlace;

    public LetterDrawer() {
        people = new People();
        letters = new Letters();
        calendar = new Calendar();
        posts = new Posts();
        hands = new Hands();
        tape = new Tape();
        reader = new MarkReader();
        printer = new Printer();
        someWords = new WordRow();
        otherWords = new WordRow();
        sequence = new Sequence();
        trays = new Trays();
        faultKind = 0;
        faultPlace = NONE;
    }

    public int person(int name, int place) {
        if (!isName(name) || !isPlace(place)) {
            return BAD;
        }
        return people.add(name, place);
    }

    public int lived(int person, int first, int last) {
        if (!people.has(person) || !isDay(first) || !isDay(last)) {
            return BAD;
        }
        people.firsts[person] = first;
        people.lasts[person] = last;
        return 1;
    }

    public int knows(int a, int b, boolean is) {
        if (!people.has(a) || !people.has(b)) {
            return BAD;
        }
        return people.acquaint(a, b, is) ? 1 : 0;
    }

    public int letter(int kind, int from, int to, int place) {
        if (!Letters.isKind(kind) || !people.has(from) || !people.has(to) || !isPlace(place)) {
            return BAD;
        }
        return letters.add(kind, from, to, place);
    }

    public int told(int letter, int what) {
        if (!letters.has(letter)) {
            return BAD;
        }
        switch (what) {
            case 0:
                return letters.kinds[letter];
            case 1:
                return letters.writers[letter];
            case 2:
                return letters.readers[letter];
            case 3:
                return letters.places[letter];
            case 4:
                return letters.leasts[letter];
            case 5:
                return letters.greatests[letter];
            case 6:
                return letters.weekdays[letter];
            case 7:
                return letters.founds[letter];
            case 8:
                return letters.sizes[letter];
            default:
                return BAD;
        }
    }

    // ---- days

    public int days(int letter, int least, int most) {
        if (!letters.has(letter) || !isDay(least) || !isDay(most) || least > most) {
            return BAD;
        }
        letters.leasts[letter] = least;
        letters.greatests[letter] = most;
        return 1;
    }

    public int week(int letter, int day) {
        if (!letters.has(letter) || day < NONE || day >= WEEK) {
            return BAD;
        }
        letters.weekdays[letter] = day;
        return 1;
    }

    public int bound(int a, int b, int d) {
        if (!letters.has(a) || !letters.has(b) || a == b || !Calendar.isShift(d)) {
            return BAD;
        }
        return calendar.add(a, b, d);
    }

    public int loose() {
        return calendar.removeLast();
    }

    public int found(int lost, int letter) {
        if (!letters.has(lost) || !letters.has(letter) || !letters.isLost(lost) || letters.isLost(letter)) {
            return BAD;
        }
        if (letters.founds[lost] != NONE) {
            return STATE;
        }
        letters.founds[lost] = letter;
        return 1;
    }

    public int lose(int lost) {
        if (!letters.has(lost)) {
            return BAD;
        }
        if (letters.founds[lost] == NONE) {
            return STATE;
        }
        letters.founds[lost] = NONE;
        return 1;
    }

    public int span(int letter, int what) {
        if (!letters.has(letter) || what < LEAST_OF_TWO || what > GREATEST_OF_TWO) {
            return BAD;
        }
        if (!calendar.settle(letters)) {
            return NONE;
        }
        return what == LEAST_OF_TWO ? calendar.lows[letter] : calendar.highs[letter];
    }

    public int clash() {
        return calendar.conflict(letters);
    }

    public int before(int a, int b) {
        if (!letters.has(a) || !letters.has(b) || a == b) {
            return BAD;
        }
        if (!calendar.settle(letters)) {
            return 0;
        }
        calendar.measurePaths(letters.size);
        return calendar.isAhead(a, b) ? 1 : 0;
    }

    // ---- posts

    public int post(int from, int to, int least, int most) {
        if (!isPlace(from) || !isPlace(to) || !Posts.isTime(least) || !Posts.isTime(most) || least > most) {
            return BAD;
        }
        posts.leasts[from][to] = least;
        posts.mosts[from][to] = most;
        return 1;
    }

    public int read(int letter, int person, int day, int what) {
        if (!letters.has(letter) || !isReading(person, day, what)) {
            return BAD;
        }
        return calendar.settle(letters) && hasRead(letter, person, day, what) ? 1 : 0;
    }

    public int reads(int person, int day, int what) {
        if (!isReading(person, day, what)) {
            return BAD;
        }
        if (!calendar.settle(letters)) {
            return 0;
        }
        int sum = 0;
        for (int letter = 0; letter < letters.size; letter++) {
            if (hasRead(letter, person, day, what)) {
                sum++;
            }
        }
        return sum;
    }

    // ---- names

    public int means(int letter, int name) {
        if (!letters.has(letter) || !isName(name)) {
            return BAD;
        }
        return hands.find(letter, name) == NONE ? Integer.bitCount(meant(letter, name)) : 1;
    }

    public int who(int letter, int name) {
        if (!letters.has(letter) || !isName(name)) {
            return BAD;
        }
        int word = hands.find(letter, name);
        if (word != NONE) {
            return hands.persons[word];
        }
        return people.onlyOne(meant(letter, name));
    }

    public int hand(int letter, int name, int person) {
        if (!letters.has(letter) || !isName(name) || !people.has(person)) {
            return BAD;
        }
        return hands.put(letter, name, person);
    }

    // ---- texts

    public int feed(int n, long bytes) {
        if (n < 1 || n > LONG_BYTES) {
            return BAD;
        }
        if (n > TEXT_BYTES - tape.size) {
            return FULL;
        }
        for (int i = 0; i < n; i++) {
            tape.add((byte) (bytes >>> (BYTE_BITS * i)));
        }
        return tape.size;
    }

    public int text(int letter) {
        if (!letters.has(letter)) {
            return BAD;
        }
        int size = tape.size;
        examineTape();
        if (faultKind == 0) {
            letters.write(letter, tape.bytes, size);
        }
        tape.size = 0;
        return faultKind == 0 ? size : -20 - faultKind;
    }

    public int fault(int what) {
        if (what == 0) {
            return faultKind;
        }
        return what == 1 ? faultPlace : BAD;
    }

    public int print(int letter, int day, int way) {
        if (!isPrinting(letter, day, way)) {
            return BAD;
        }
        printText(letter, day, way);
        return printer.size;
    }

    public int printed(int letter, int day, int way, int i) {
        if (!isPrinting(letter, day, way)) {
            return BAD;
        }
        printText(letter, day, way);
        return i >= 0 && i < printer.size ? printer.bytes[i] & 255 : NONE;
    }

    public int words(int letter) {
        if (!letters.has(letter)) {
            return BAD;
        }
        readWords(letter, someWords);
        return someWords.size;
    }

    public int differ(int a, int b) {
        if (!letters.has(a) || !letters.has(b)) {
            return BAD;
        }
        readWords(a, someWords);
        readWords(b, otherWords);
        return someWords.stepsTo(otherWords);
    }

    public int note(int letter, int i) {
        if (!letters.has(letter)) {
            return BAD;
        }
        byte[] bytes = letters.texts[letter];
        int seen = 0;
        reader.begin();
        for (int at = 0; at < letters.sizes[letter]; at++) {
            if (reader.take(bytes[at] & 255, at) == MarkReader.NOTED) {
                if (seen == i) {
                    return reader.number;
                }
                seen++;
            }
        }
        return NONE;
    }

    // ---- order

    public int jumps(int set) {
        if (!isOrderable(set)) {
            return BAD;
        }
        return arrange(set) ? sequence.jumps : NONE;
    }

    public int order(int set, int i) {
        if (!isOrderable(set)) {
            return BAD;
        }
        return i >= 0 && i < Integer.bitCount(set) && arrange(set) ? sequence.row[i] : NONE;
    }

    public int count(int what) {
        switch (what) {
            case 0:
                return people.size;
            case 1:
                return letters.size;
            case 2:
                return calendar.size;
            case 3:
                return letters.stillLost();
            case 4:
                return tape.size;
            case 5:
                return hands.size;
            default:
                return BAD;
        }
    }

    // ---- the host

    public int tray(int tray, int n) {
        if (!Trays.has(tray) || n > Trays.MOST_BYTES) {
            return BAD;
        }
        if (n < NONE) {
            return SIZE_BELOW_0;
        }
        trays.empty(tray, n);
        return 1;
    }

    public int cell(int tray, int i, int v) {
        if (!Trays.has(tray)) {
            return BAD;
        }
        if (trays.sizes[tray] == NONE) {
            return NOTHING;
        }
        if (!trays.hasCell(tray, i)) {
            return OUTSIDE;
        }
        trays.rows[tray][i] = (byte) v;
        return 1;
    }

    public int lay(int tray, int from, int n) {
        if (!Trays.has(tray) || n < 0) {
            return BAD;
        }
        if (trays.sizes[tray] == NONE) {
            return NOTHING;
        }
        for (int i = 0; i < n; i++) {
            if (!trays.hasCell(tray, from + i)) {
                return OUTSIDE;
            }
            if (tape.size >= TEXT_BYTES) {
                return FULL;
            }
            tape.add(trays.rows[tray][from + i]);
        }
        return tape.size;
    }

    public int taken(int letter, int k) {
        if (!Letters.isKind(k)) {
            return BAD;
        }
        if (!letters.has(letter)) {
            return NOTHING;
        }
        return Letters.isUnder(letters.kinds[letter], k) ? letters.writers[letter] : OTHER_SORT;
    }

    private static boolean isDay(int day) {
        return day >= 0 && day <= LAST_DAY;
    }

    private static boolean isName(int name) {
        return name >= 1 && name <= LAST_NAME;
    }

    private static boolean isPlace(int place) {
        return place >= 0 && place < PLACES;
    }

    private boolean isReading(int person, int day, int what) {
        return people.has(person) && isDay(day) && (what == CAN || what == MUST);
    }

    private boolean isPrinting(int letter, int day, int way) {
        return letters.has(letter) && isDay(day) && (way == PLAIN || way == PRINTED);
    }

    private boolean isOrderable(int set) {
        return set >>> letters.size == 0 && Integer.bitCount(set) <= Sequence.MOST;
    }

    private boolean hasRead(int letter, int person, int day, int what) {
        if (!letters.isReader(letter, person)) {
            return false;
        }
        int from = letters.places[letter];
        int to = people.places[person];
        if (what == CAN) {
            return calendar.lows[letter] + posts.leasts[from][to] <= day;
        }
        return calendar.highs[letter] + posts.mosts[from][to] <= day;
    }

    private int meant(int letter, int name) {
        boolean settled = calendar.settle(letters);
        int least = settled ? calendar.lows[letter] : 0;
        int greatest = settled ? calendar.highs[letter] : LAST_DAY;
        return people.knownBy(letters.writers[letter], name, least, greatest);
    }

    private void examineTape() {
        faultKind = 0;
        faultPlace = NONE;
        reader.begin();
        for (int at = 0; at < tape.size; at++) {
            int event = reader.take(tape.bytes[at] & 255, at);
            if (event == MarkReader.WRONG) {
                faultKind = 1;
                faultPlace = reader.wrongAt;
                return;
            }
            if (event == MarkReader.NOTED && faultKind == 0 && !letters.has(reader.number)) {
                faultKind = 2;
                faultPlace = reader.markAt;
            }
        }
        if (!reader.isWhole()) {
            faultKind = 1;
            faultPlace = tape.size;
        }
    }

    private void printText(int letter, int day, int way) {
        printer.render(reader, letters.texts[letter], letters.sizes[letter], day, way);
    }

    private void readWords(int letter, WordRow words) {
        printText(letter, LAST_DAY, PLAIN);
        words.split(printer.bytes, printer.size);
    }

    private boolean arrange(int set) {
        if (!calendar.settle(letters)) {
            return false;
        }
        calendar.measurePaths(letters.size);
        sequence.arrange(set, calendar);
        return true;
    }

    /** The PERSONS; whom each knows stands as bits. */
    private static final class People {
        static final int MOST = 10;

        final int[] names = new int[MOST];
        final int[] places = new int[MOST];
        final int[] firsts = new int[MOST];
        final int[] lasts = new int[MOST];
        final int[] known = new int[MOST];
        int size = 0;

        boolean has(int person) {
            return person >= 0 && person < size;
        }

        int add(int name, int place) {
            if (size >= MOST) {
                return FULL;
            }
            names[size] = name;
            places[size] = place;
            firsts[size] = 0;
            lasts[size] = LAST_DAY;
            known[size] = 0;
            size++;
            return size - 1;
        }

        boolean acquaint(int a, int b, boolean is) {
            int told = is ? known[a] | 1 << b : known[a] & ~(1 << b);
            boolean other = told != known[a];
            known[a] = told;
            return other;
        }

        int knownBy(int person, int name, int least, int greatest) {
            int set = 0;
            for (int other = 0; other < size; other++) {
                boolean knows = (known[person] >> other & 1) == 1;
                if (knows && names[other] == name && isAlive(other, least, greatest)) {
                    set |= 1 << other;
                }
            }
            return set;
        }

        int onlyOne(int set) {
            int one = NONE;
            for (int person = 0; person < size; person++) {
                if (set == 1 << person) {
                    one = person;
                }
            }
            return one;
        }

        // A first DAY behind the last one may be told: such a PERSON has no DAY in common with any.
        private boolean isAlive(int person, int least, int greatest) {
            return Math.max(firsts[person], least) <= Math.min(lasts[person], greatest);
        }
    }

    /** The LETTERS, a row for each thing told of them. */
    private static final class Letters {
        static final int MOST = 12;
        private static final int KINDS = 6;
        private static final int DRAFT = 1, LOST = 4, CIRCULAR = 5;
        private static final int[] ABOVE = {-1, 0, 0, 0, 0, 2};

        final int[] kinds = new int[MOST];
        final int[] writers = new int[MOST];
        final int[] readers = new int[MOST];
        final int[] places = new int[MOST];
        final int[] leasts = new int[MOST];
        final int[] greatests = new int[MOST];
        final int[] weekdays = new int[MOST];
        final int[] founds = new int[MOST];
        final int[] sizes = new int[MOST];
        final byte[][] texts = new byte[MOST][TEXT_BYTES];
        int size = 0;

        static boolean isKind(int kind) {
            return kind >= 0 && kind < KINDS;
        }

        static boolean isUnder(int kind, int top) {
            int at = kind;
            for (int step = 0; step < KINDS && isKind(at); step++) {
                if (at == top) {
                    return true;
                }
                at = ABOVE[at];
            }
            return false;
        }

        boolean has(int letter) {
            return letter >= 0 && letter < size;
        }

        int add(int kind, int writer, int reader, int place) {
            if (size >= MOST) {
                return FULL;
            }
            kinds[size] = kind;
            writers[size] = writer;
            readers[size] = reader;
            places[size] = place;
            leasts[size] = 0;
            greatests[size] = LAST_DAY;
            weekdays[size] = NONE;
            founds[size] = NONE;
            sizes[size] = 0;
            size++;
            return size - 1;
        }

        boolean isLost(int letter) {
            return kinds[letter] == LOST;
        }

        int stillLost() {
            int sum = 0;
            for (int letter = 0; letter < size; letter++) {
                if (isLost(letter) && founds[letter] == NONE) {
                    sum++;
                }
            }
            return sum;
        }

        boolean isReader(int letter, int person) {
            if (kinds[letter] == DRAFT) {
                return false;
            }
            if (kinds[letter] == CIRCULAR) {
                return writers[letter] != person;
            }
            return readers[letter] == person;
        }

        void write(int letter, byte[] bytes, int length) {
            sizes[letter] = Math.min(length, TEXT_BYTES);
            for (int i = 0; i < sizes[letter]; i++) {
                texts[letter][i] = bytes[i];
            }
        }
    }

    /** The BOUNDS, and THE SPANS that they leave to the LETTERS. */
    private static final class Calendar {
        private static final int MOST = 20;
        private static final int GREATEST_SHIFT = 500;
        private static final int NO_PATH = -1000000;

        // A row of BOUNDS that still moves a DAY meets each LETTER with a WEEKDAY once at most, and each
        // other one once between two of those: 48 LETTERS of 12. What moves for longer moves for ever.
        private static final int ROUNDS = 50;

        final int[] lows = new int[Letters.MOST];
        final int[] highs = new int[Letters.MOST];
        int size = 0;
        private final int[] froms = new int[MOST];
        private final int[] tos = new int[MOST];
        private final int[] shifts = new int[MOST];
        private final int[] roots = new int[Letters.MOST];
        private final int[] weekdays = new int[Letters.MOST];
        private final int[][] paths = new int[Letters.MOST][Letters.MOST];

        static boolean isShift(int d) {
            return d >= -GREATEST_SHIFT && d <= GREATEST_SHIFT;
        }

        int add(int a, int b, int d) {
            if (size >= MOST) {
                return FULL;
            }
            froms[size] = a;
            tos[size] = b;
            shifts[size] = d;
            size++;
            return size;
        }

        int removeLast() {
            if (size == 0) {
                return STATE;
            }
            size--;
            return size;
        }

        /** Finds lows and highs of all letters; false if they CLASH. */
        boolean settle(Letters letters) {
            if (!isPossible(letters, allBounds())) {
                return false;
            }
            sinkHighs();
            for (int i = 0; i < letters.size; i++) {
                lows[i] = lows[roots[i]];
                highs[i] = highs[roots[i]];
            }
            return true;
        }

        int conflict(Letters letters) {
            int kept = allBounds();
            if (isPossible(letters, kept)) {
                return NONE;
            }
            for (int k = size - 1; k >= 0; k--) {
                int without = kept & ~(1 << k);
                if (!isPossible(letters, without)) {
                    kept = without;
                }
            }
            return kept;
        }

        boolean isAhead(int a, int b) {
            return highs[a] < lows[b] || paths[roots[a]][roots[b]] > 0;
        }

        /** The greatest sums of d from LETTER to LETTER; only for bounds that do not CLASH. */
        void measurePaths(int count) {
            for (int i = 0; i < count; i++) {
                for (int j = 0; j < count; j++) {
                    paths[i][j] = i == j ? 0 : NO_PATH;
                }
            }
            for (int k = 0; k < size; k++) {
                int a = roots[froms[k]];
                int b = roots[tos[k]];
                paths[a][b] = Math.max(paths[a][b], shifts[k]);
            }
            for (int by = 0; by < count; by++) {
                joinPaths(count, by);
            }
        }

        private void joinPaths(int count, int by) {
            for (int i = 0; i < count; i++) {
                for (int j = 0; j < count; j++) {
                    if (paths[i][by] != NO_PATH && paths[by][j] != NO_PATH) {
                        paths[i][j] = Math.max(paths[i][j], paths[i][by] + paths[by][j]);
                    }
                }
            }
        }

        private int allBounds() {
            return (1 << size) - 1;
        }

        private boolean isPossible(Letters letters, int kept) {
            for (int i = 0; i < letters.size; i++) {
                roots[i] = letters.founds[i] == NONE ? i : letters.founds[i];
                lows[i] = letters.leasts[i];
                highs[i] = letters.greatests[i];
                weekdays[i] = letters.weekdays[i];
            }
            return joinFound(letters.size) && raiseLows(letters.size, kept);
        }

        private boolean joinFound(int count) {
            for (int i = 0; i < count; i++) {
                int root = roots[i];
                lows[root] = Math.max(lows[root], lows[i]);
                highs[root] = Math.min(highs[root], highs[i]);
                if (weekdays[root] == NONE) {
                    weekdays[root] = weekdays[i];
                } else if (weekdays[i] != NONE && weekdays[i] != weekdays[root]) {
                    return false;
                }
            }
            for (int i = 0; i < count; i++) {
                lows[i] = dayFrom(lows[i], weekdays[i]);
                highs[i] = dayUpTo(highs[i], weekdays[i]);
            }
            return true;
        }

        private boolean raiseLows(int count, int kept) {
            boolean moved = true;
            for (int round = 0; round < ROUNDS && moved; round++) {
                moved = false;
                for (int k = 0; k < size; k++) {
                    if ((kept >> k & 1) == 1 && raiseBy(k)) {
                        moved = true;
                    }
                }
                if (!isOrdered(count)) {
                    return false;
                }
            }
            return !moved;
        }

        private boolean raiseBy(int k) {
            int b = roots[tos[k]];
            int low = dayFrom(lows[roots[froms[k]]] + shifts[k], weekdays[b]);
            if (low <= lows[b]) {
                return false;
            }
            lows[b] = low;
            return true;
        }

        private boolean isOrdered(int count) {
            for (int i = 0; i < count; i++) {
                if (roots[i] == i && lows[i] > highs[i]) {
                    return false;
                }
            }
            return true;
        }

        // It ends: lows are DAYS that keep all, and no high sinks below its low.
        private void sinkHighs() {
            boolean moved = true;
            for (int round = 0; round < ROUNDS && moved; round++) {
                moved = false;
                for (int k = 0; k < size; k++) {
                    if (sinkBy(k)) {
                        moved = true;
                    }
                }
            }
        }

        private boolean sinkBy(int k) {
            int a = roots[froms[k]];
            int high = dayUpTo(highs[roots[tos[k]]] - shifts[k], weekdays[a]);
            if (high >= highs[a]) {
                return false;
            }
            highs[a] = high;
            return true;
        }

        private static int dayFrom(int day, int weekday) {
            return weekday == NONE ? day : day + Math.floorMod(weekday - day, WEEK);
        }

        private static int dayUpTo(int day, int weekday) {
            return weekday == NONE ? day : day - Math.floorMod(day - weekday, WEEK);
        }
    }

    /** How many DAYS a letter takes from a PLACE to a PLACE. */
    private static final class Posts {
        private static final int MOST_DAYS = 400;

        final int[][] leasts = new int[PLACES][PLACES];
        final int[][] mosts = new int[PLACES][PLACES];

        Posts() {
            for (int from = 0; from < PLACES; from++) {
                for (int to = 0; to < PLACES; to++) {
                    leasts[from][to] = from == to ? 0 : 1;
                    mosts[from][to] = from == to ? 2 : 30;
                }
            }
        }

        static boolean isTime(int days) {
            return days >= 0 && days <= MOST_DAYS;
        }
    }

    /** The HANDS' words. */
    private static final class Hands {
        private static final int MOST = 10;

        final int[] persons = new int[MOST];
        int size = 0;
        private final int[] letters = new int[MOST];
        private final int[] names = new int[MOST];

        int find(int letter, int name) {
            for (int i = 0; i < size; i++) {
                if (letters[i] == letter && names[i] == name) {
                    return i;
                }
            }
            return NONE;
        }

        int put(int letter, int name, int person) {
            int word = find(letter, name);
            if (word != NONE) {
                persons[word] = person;
                return size;
            }
            if (size >= MOST) {
                return FULL;
            }
            letters[size] = letter;
            names[size] = name;
            persons[size] = person;
            size++;
            return size;
        }
    }

    /** THE TAPE on which a TEXT is told. */
    private static final class Tape {
        final byte[] bytes = new byte[TEXT_BYTES];
        int size = 0;

        void add(byte b) {
            if (size < TEXT_BYTES) {
                bytes[size] = b;
                size++;
            }
        }
    }

    /** Takes a TEXT byte by byte and tells what each one does there. */
    private static final class MarkReader {
        static final int SIGN = 0, WITHIN = 1, OPENED = 2, CLOSED = 3, NOTED = 4, WRONG = 5;
        private static final int IN_TEXT = 0, AT_SORT = 1, IN_NUMBER = 2;
        private static final int MOST_OPEN = 4, MOST_DIGITS = 4;

        int depth = 0;
        int sort = 0;
        int number = 0;
        int markAt = 0;
        int wrongAt = 0;
        private final int[] open = new int[MOST_OPEN];
        private int state = IN_TEXT;
        private int digits = 0;

        void begin() {
            depth = 0;
            state = IN_TEXT;
        }

        boolean isWhole() {
            return state == IN_TEXT && depth == 0;
        }

        int take(int sign, int at) {
            switch (state) {
                case AT_SORT:
                    return takeSort(sign, at);
                case IN_NUMBER:
                    return takeNumber(sign, at);
                default:
                    return takeText(sign, at);
            }
        }

        private int takeText(int sign, int at) {
            if (isLetter(sign) || sign == ' ' || sign == '.') {
                return SIGN;
            }
            if (sign == '}' && depth > 0) {
                depth--;
                sort = open[depth];
                return CLOSED;
            }
            if (sign == '{' && depth < MOST_OPEN) {
                markAt = at;
                state = AT_SORT;
                return WITHIN;
            }
            return stopAt(at);
        }

        private int takeSort(int sign, int at) {
            if (!isSort(sign)) {
                return stopAt(at);
            }
            if (isOpen(sign)) {
                return stopAt(markAt);
            }
            sort = sign;
            if (sign == 's' || sign == 'n') {
                number = 0;
                digits = 0;
                state = IN_NUMBER;
                return WITHIN;
            }
            return openMark();
        }

        private int takeNumber(int sign, int at) {
            if (sign >= '0' && sign <= '9' && digits < MOST_DIGITS) {
                number = number * 10 + sign - '0';
                digits++;
                return WITHIN;
            }
            if (digits == 0 || sign != (sort == 's' ? ':' : '}')) {
                return stopAt(at);
            }
            if (sort == 's') {
                return openMark();
            }
            state = IN_TEXT;
            return NOTED;
        }

        private int openMark() {
            if (depth < MOST_OPEN) {
                open[depth] = sort;
                depth++;
            }
            state = IN_TEXT;
            return OPENED;
        }

        private int stopAt(int at) {
            wrongAt = at;
            return WRONG;
        }

        private boolean isOpen(int sign) {
            for (int i = 0; i < depth; i++) {
                if (open[i] == sign) {
                    return true;
                }
            }
            return false;
        }

        static boolean isLetter(int sign) {
            return sign >= 'a' && sign <= 'z';
        }

        private static boolean isSort(int sign) {
            return sign == 'd' || sign == 'a' || sign == 'u' || sign == 'h' || sign == 's' || sign == 'n';
        }
    }

    /** A TEXT as it stands on a DAY; never longer than the TEXT itself. */
    private static final class Printer {
        private static final int SHOWN = 0;

        final byte[] bytes = new byte[TEXT_BYTES];
        int size = 0;

        void render(MarkReader reader, byte[] text, int length, int day, int way) {
            int hiddenFrom = SHOWN;
            size = 0;
            reader.begin();
            for (int at = 0; at < length && at < text.length; at++) {
                int event = reader.take(text[at] & 255, at);
                if (hiddenFrom != SHOWN) {
                    if (event == MarkReader.CLOSED && reader.depth < hiddenFrom) {
                        hiddenFrom = SHOWN;
                    }
                } else if (event == MarkReader.SIGN) {
                    add(text[at]);
                } else if (event == MarkReader.OPENED && isHidden(reader, day, way)) {
                    hiddenFrom = reader.depth;
                    if (way == PRINTED) {
                        add('_');
                    }
                } else if (way == PRINTED) {
                    addMark(event, reader);
                }
            }
        }

        private static boolean isHidden(MarkReader reader, int day, int way) {
            return reader.sort == 's' && reader.number > day || reader.sort == 'd' && way == PLAIN;
        }

        private void addMark(int event, MarkReader reader) {
            if (event == MarkReader.NOTED) {
                add('(');
                addNumber(reader.number);
                add(')');
                return;
            }
            if (event != MarkReader.OPENED && event != MarkReader.CLOSED) {
                return;
            }
            boolean opened = event == MarkReader.OPENED;
            switch (reader.sort) {
                case 'd':
                    add(opened ? '<' : '>');
                    break;
                case 'a':
                    add('/');
                    break;
                case 'u':
                    add(opened ? '[' : ']');
                    break;
                case 'h':
                    add('\'');
                    break;
                default:
                    break;
            }
        }

        private void addNumber(int number) {
            for (int unit = 1000; unit > 0; unit /= 10) {
                if (number >= unit || unit == 1) {
                    add('0' + number / unit % 10);
                }
            }
        }

        private void add(int sign) {
            if (size < TEXT_BYTES) {
                bytes[size] = (byte) sign;
                size++;
            }
        }
    }

    /** The WORDS of a LETTER. */
    private static final class WordRow {
        private static final int MOST = TEXT_BYTES / 2;

        int size = 0;
        private final byte[] bytes = new byte[TEXT_BYTES];
        private final int[] starts = new int[MOST];
        private final int[] ends = new int[MOST];
        private final int[] costs = new int[MOST + 1];

        void split(byte[] plain, int length) {
            boolean within = false;
            size = 0;
            for (int at = 0; at < length && at < TEXT_BYTES; at++) {
                bytes[at] = plain[at];
                if (!MarkReader.isLetter(plain[at])) {
                    within = false;
                } else if (within) {
                    ends[size - 1] = at + 1;
                } else if (size < MOST) {
                    within = true;
                    starts[size] = at;
                    ends[size] = at + 1;
                    size++;
                }
            }
        }

        // costs[j]: the least changes by which the words taken up to now become the first j of the other row.
        int stepsTo(WordRow other) {
            for (int j = 0; j <= other.size; j++) {
                costs[j] = j;
            }
            for (int i = 0; i < size; i++) {
                int diagonal = costs[0];
                costs[0] = i + 1;
                for (int j = 0; j < other.size; j++) {
                    int replaced = isAlike(i, other, j) ? diagonal : diagonal + 1;
                    diagonal = costs[j + 1];
                    costs[j + 1] = Math.min(replaced, Math.min(diagonal, costs[j]) + 1);
                }
            }
            return costs[other.size];
        }

        private boolean isAlike(int i, WordRow other, int j) {
            int length = ends[i] - starts[i];
            if (length != other.ends[j] - other.starts[j]) {
                return false;
            }
            for (int at = 0; at < length; at++) {
                if (bytes[starts[i] + at] != other.bytes[other.starts[j] + at]) {
                    return false;
                }
            }
            return true;
        }
    }

    /** THE ORDER of a set of LETTERS. */
    private static final class Sequence {
        static final int MOST = 8;
        private static final int UP = 1, DOWN = -1;

        final int[] row = new int[MOST];
        int jumps = 0;
        private int size = 0;

        // No way over the least DAYS is as short as the one straight up or the one straight down. A LETTER that is
        // BEFORE another one has the lesser least DAY: so the way up is always open, and the way down if none of
        // them is BEFORE another. The two ways begin with unlike LETTERS, or are the same.
        void arrange(int set, Calendar calendar) {
            collect(set);
            jumps = 0;
            if (size == 0) {
                return;
            }
            sort(calendar.lows, UP);
            jumps = calendar.lows[row[size - 1]] - calendar.lows[row[0]];
            int first = row[0];
            if (isFree(calendar)) {
                sort(calendar.lows, DOWN);
                if (first < row[0]) {
                    sort(calendar.lows, UP);
                }
            }
        }

        private void collect(int set) {
            size = 0;
            for (int letter = 0; letter < Letters.MOST; letter++) {
                if ((set >> letter & 1) == 1 && size < MOST) {
                    row[size] = letter;
                    size++;
                }
            }
        }

        private boolean isFree(Calendar calendar) {
            for (int i = 0; i < size; i++) {
                for (int j = 0; j < size; j++) {
                    if (i != j && calendar.isAhead(row[i], row[j])) {
                        return false;
                    }
                }
            }
            return true;
        }

        // Of like DAYS the lesser LETTER stays first, as the row has come.
        private void sort(int[] days, int way) {
            for (int i = 1; i < size; i++) {
                for (int j = i; j > 0 && (days[row[j - 1]] - days[row[j]]) * way > 0; j--) {
                    int other = row[j];
                    row[j] = row[j - 1];
                    row[j - 1] = other;
                }
            }
        }
    }

    /** TRAYS: rows of bytes; one that is missing has the size NONE. */
    private static final class Trays {
        static final int MOST_BYTES = 60;
        private static final int COUNT = 4;

        final byte[][] rows = new byte[COUNT][MOST_BYTES];
        final int[] sizes = {NONE, NONE, NONE, NONE};

        static boolean has(int tray) {
            return tray >= 0 && tray < COUNT;
        }

        boolean hasCell(int tray, int i) {
            return i >= 0 && i < sizes[tray];
        }

        void empty(int tray, int n) {
            sizes[tray] = n;
            for (int i = 0; i < MOST_BYTES; i++) {
                rows[tray][i] = 0;
            }
        }
    }
}
