import java.util.ArrayList;
import java.util.List;

/** "Refusals, the first that the call's words name; they change nothing": every refusal of every call, one by one. */
public final class RefusalTest {
    private static final int BAD = Desk.BAD, STATE = Desk.STATE, FULL = Desk.FULL;
    private static final int NOTHING = Desk.NOTHING, OUTSIDE = Desk.OUTSIDE, OTHER_SORT = Desk.OTHER_SORT,
        SIZE_BELOW_0 = Desk.SIZE_BELOW_0;
    private static final int[] KINDS = {Desk.LETTER, Desk.DRAFT, Desk.COPY, Desk.CARD, Desk.LOST, Desk.CIRCULAR};
    private static final int PARTS = 8;
    private static final Check check = new Check();

    private interface Call {
        int on(LetterDrawer x);
    }

    private interface Builder {
        LetterDrawer make();
    }

    public static void main(String[] args) {
        telling(RefusalTest::some);
        asking(RefusalTest::some);
        texts(RefusalTest::some);
        host(RefusalTest::some);
        severalAtOnce(RefusalTest::some);
        full(RefusalTest::full);
        check.end();
    }

    /** 4 PERSONS, 6 LETTERS of all KINDS, something of everything else. */
    private static LetterDrawer some() {
        LetterDrawer x = new LetterDrawer();
        for (int i = 0; i < 4; i++) {
            x.person(1 + i % 3, i);
            x.lived(i, 10 * i, 9000 + i);
        }
        for (int i = 0; i < 6; i++) {
            x.letter(KINDS[i], i % 4, (i + 1) % 4, i % 3);
            x.days(i, 100 * i, 9000);
        }
        lay(x);
        Desk.feed(x, "tape {n5}.");
        return x;
    }

    /** As much of everything as there may be. */
    private static LetterDrawer full() {
        LetterDrawer x = new LetterDrawer();
        for (int i = 0; i < 10; i++) {
            x.person(1 + i % 3, i % 6);
        }
        for (int i = 0; i < 12; i++) {
            x.letter(KINDS[i % 6], i % 10, (i + 1) % 10, i % 6);
        }
        lay(x);
        for (int i = 1; i < 10; i++) {
            x.hand(i, 2, i);
        }
        for (int i = 2; i < 20; i++) {
            x.bound(i % 5, 6 + i % 5, -i);
        }
        Desk.feed(x, "abcdefgh".repeat(20));
        return x;
    }

    private static void lay(LetterDrawer x) {
        x.knows(0, 1, true);
        x.knows(1, 1, true);
        x.knows(3, 2, true);
        x.week(0, 3);
        x.bound(0, 2, 50);
        x.bound(2, 3, -20);
        x.found(4, 3);
        x.post(0, 1, 4, 9);
        x.post(2, 2, 1, 1);
        x.hand(0, 2, 3);
        Desk.write(x, 0, "a {db}.{s40:c}{n2}");
        Desk.write(x, 5, "word {ua}");
        Desk.write(x, 1, "x{n99}");
        x.tray(0, 5);
        x.tray(2, 60);
        for (int i = 0; i < 5; i++) {
            x.cell(0, i, 'p' + i);
            x.cell(2, 59 - i, 'k' + i);
        }
    }

    /** The call is refused as due, and all that can be asked then is answered as if it had not been made. */
    private static void refused(String name, int want, Builder builder, Call call) {
        check.sentence(name);
        check.due("the call", call.on(builder.make()), want);
        for (int part = 0; part < PARTS; part++) {
            LetterDrawer touched = builder.make();
            call.on(touched);
            List<Integer> got = answers(touched, part);
            List<Integer> due = answers(builder.make(), part);
            check.holds("nothing changed (part " + part + ")", got.equals(due));
        }
    }

    /** All that can be asked, in parts that are made of fewer than 512 calls each. */
    private static List<Integer> answers(LetterDrawer x, int part) {
        List<Integer> row = new ArrayList<>();
        switch (part) {
            case 0 -> told(x, row);
            case 1 -> spans(x, row);
            case 2 -> known(x, row);
            case 3 -> reading(x, row);
            case 4 -> printed(x, row);
            case 5 -> tape(x, row);
            case 6 -> lives(x, row);
            default -> trays(x, row);
        }
        return row;
    }

    private static void told(LetterDrawer x, List<Integer> row) {
        for (int letter = 0; letter < 12; letter++) {
            for (int what = 0; what <= 8; what++) {
                row.add(x.told(letter, what));
            }
        }
        for (int what = 0; what <= 5; what++) {
            row.add(x.count(what));
        }
        row.add(x.fault(0));
        row.add(x.fault(1));
        row.add(x.clash());
        for (int bound = 0; bound < 20; bound++) {
            row.add(x.loose());
            row.add(x.span(3, 0));
            row.add(x.span(0, 1));
        }
    }

    private static void spans(LetterDrawer x, List<Integer> row) {
        for (int a = 0; a < 12; a++) {
            row.add(x.span(a, 0));
            row.add(x.span(a, 1));
            for (int b = 0; b < 12; b++) {
                row.add(x.before(a, b));
            }
        }
        row.add(x.jumps(0b101111));
        for (int i = 0; i < 5; i++) {
            row.add(x.order(0b101111, i));
        }
    }

    private static void known(LetterDrawer x, List<Integer> row) {
        for (int letter = 0; letter < 12; letter++) {
            for (int name = 1; name <= 4; name++) {
                row.add(x.means(letter, name));
                row.add(x.who(letter, name));
            }
        }
        for (int a = 0; a < 10; a++) {
            for (int b = 0; b < 10; b++) {
                row.add(x.knows(a, b, true));
            }
        }
    }

    /** Who of each NAME is there on some DAYS, as one LETTER goes from DAY to DAY and its writer knows all. */
    private static void lives(LetterDrawer x, List<Integer> row) {
        for (int bound = 0; bound < 20; bound++) {
            x.loose();
        }
        for (int person = 0; person < 10; person++) {
            x.knows(2, person, true);
        }
        for (int day : new int[] {0, 5, 9, 10, 19, 20, 29, 30, 31, 8999, 9000, 9001, 9002, 9003, 9004, 9999}) {
            x.days(2, day, day);
            for (int name = 1; name <= 3; name++) {
                row.add(x.means(2, name));
            }
        }
    }

    private static void reading(LetterDrawer x, List<Integer> row) {
        for (int person = 0; person < 10; person++) {
            for (int day = 0; day < 10; day++) {
                row.add(x.reads(person, 101 * day + 3, 0));
                row.add(x.reads(person, 9000 + day, 1));
            }
        }
        x.days(0, 500, 500);
        x.week(0, Desk.NONE);
        for (int day = 500; day < 540; day++) {
            row.add(x.read(0, 1, day, 0));
            row.add(x.read(0, 1, day, 1));
        }
    }

    private static void print(LetterDrawer x, int letter, int day, int way, List<Integer> row) {
        int size = x.print(letter, day, way);
        row.add(size);
        for (int i = 0; i < size; i++) {
            row.add(x.printed(letter, day, way, i));
        }
    }

    private static void printed(LetterDrawer x, List<Integer> row) {
        for (int letter = 0; letter < 12; letter++) {
            print(x, letter, 39, 1, row);
            print(x, letter, 40, 0, row);
            row.add(x.words(letter));
            row.add(x.note(letter, 0));
            row.add(x.differ(letter, 0));
        }
    }

    private static void tape(LetterDrawer x, List<Integer> row) {
        row.add(x.text(0));
        row.add(x.fault(1));
        print(x, 0, 0, 1, row);
    }

    private static void trays(LetterDrawer x, List<Integer> row) {
        x.text(0);
        for (int tray = 0; tray < 4; tray++) {
            for (int i = 0; i < 60; i += 59) {
                row.add(x.lay(tray, i, 1));
                row.add(x.text(0));
                print(x, 0, 0, 0, row);
            }
            row.add(x.lay(tray, 55, 5));
            row.add(x.lay(tray, 0, 5));
            row.add(x.text(0));
            print(x, 0, 0, 0, row);
        }
    }

    private static void telling(Builder some) {
        refused("person: name", BAD, some, x -> x.person(0, 1));
        refused("person: place", BAD, some, x -> x.person(1, 6));
        refused("lived: person", BAD, some, x -> x.lived(4, 1, 2));
        refused("lived: first", BAD, some, x -> x.lived(1, -1, 2));
        refused("lived: last", BAD, some, x -> x.lived(1, 1, 10000));
        refused("knows: a", BAD, some, x -> x.knows(4, 0, true));
        refused("knows: b", BAD, some, x -> x.knows(0, 4, true));
        refused("knows: not", BAD, some, x -> x.knows(0, -1, false));
        refused("letter: kind", BAD, some, x -> x.letter(6, 0, 0, 0));
        refused("letter: from", BAD, some, x -> x.letter(0, 4, 0, 0));
        refused("letter: to", BAD, some, x -> x.letter(0, 0, 4, 0));
        refused("letter: place", BAD, some, x -> x.letter(0, 0, 0, -1));
        refused("days: letter", BAD, some, x -> x.days(6, 5, 6));
        refused("days: least", BAD, some, x -> x.days(0, -1, 6));
        refused("days: most", BAD, some, x -> x.days(0, 5, 10000));
        refused("days: least above most", BAD, some, x -> x.days(0, 6, 5));
        refused("week: letter", BAD, some, x -> x.week(6, 1));
        refused("week: day", BAD, some, x -> x.week(0, 7));
        refused("bound: a", BAD, some, x -> x.bound(6, 0, 1));
        refused("bound: b", BAD, some, x -> x.bound(0, 6, 1));
        refused("bound: d", BAD, some, x -> x.bound(0, 1, 501));
        refused("bound: a = b", BAD, some, x -> x.bound(1, 1, 0));
        refused("found: not LOST", BAD, some, x -> x.found(0, 1));
        refused("found: the other one LOST", BAD, some, x -> x.found(4, 4));
        refused("found: no such lost", BAD, some, x -> x.found(6, 0));
        refused("found: no such letter", BAD, some, x -> x.found(4, 6));
        refused("found: FOUND", STATE, some, x -> x.found(4, 0));
        refused("lose: letter", BAD, some, x -> x.lose(6));
        refused("lose: not LOST", STATE, some, x -> x.lose(3));
        refused("post: from", BAD, some, x -> x.post(6, 0, 1, 1));
        refused("post: to", BAD, some, x -> x.post(0, -1, 1, 1));
        refused("post: least", BAD, some, x -> x.post(0, 1, -1, 1));
        refused("post: most", BAD, some, x -> x.post(0, 1, 1, 401));
        refused("post: least above most", BAD, some, x -> x.post(0, 1, 2, 1));
        refused("hand: letter", BAD, some, x -> x.hand(6, 1, 0));
        refused("hand: name", BAD, some, x -> x.hand(0, 100, 0));
        refused("hand: person", BAD, some, x -> x.hand(0, 2, 4));
        Builder bare = () -> Desk.with(3, KINDS);
        refused("loose: there is none", STATE, bare, x -> x.loose());
        refused("lose: not FOUND", STATE, bare, x -> x.lose(4));
    }

    private static void asking(Builder some) {
        refused("told: letter", BAD, some, x -> x.told(6, 0));
        refused("told: what", BAD, some, x -> x.told(0, 9));
        refused("span: letter", BAD, some, x -> x.span(6, 0));
        refused("span: what", BAD, some, x -> x.span(0, 2));
        refused("before: a", BAD, some, x -> x.before(6, 0));
        refused("before: b", BAD, some, x -> x.before(0, 6));
        refused("before: a = b", BAD, some, x -> x.before(2, 2));
        refused("read: letter", BAD, some, x -> x.read(6, 0, 0, 0));
        refused("read: person", BAD, some, x -> x.read(0, 4, 0, 0));
        refused("read: day", BAD, some, x -> x.read(0, 0, 10000, 0));
        refused("read: what", BAD, some, x -> x.read(0, 0, 0, 2));
        refused("reads: person", BAD, some, x -> x.reads(4, 0, 0));
        refused("reads: day", BAD, some, x -> x.reads(0, -1, 0));
        refused("reads: what", BAD, some, x -> x.reads(0, 0, -1));
        refused("means: letter", BAD, some, x -> x.means(6, 1));
        refused("means: name", BAD, some, x -> x.means(0, 0));
        refused("who: letter", BAD, some, x -> x.who(6, 1));
        refused("who: name", BAD, some, x -> x.who(0, 100));
        refused("jumps: others", BAD, some, x -> x.jumps(64));
        refused("order: others", BAD, some, x -> x.order(64, 0));
        refused("count: what", BAD, some, x -> x.count(6));
        refused("taken: k", BAD, some, x -> x.taken(0, 6));
        refused("taken: letter", NOTHING, some, x -> x.taken(6, 0));
        refused("taken: KIND", OTHER_SORT, some, x -> x.taken(0, 1));
    }

    private static void texts(Builder some) {
        refused("feed: n too small", BAD, some, x -> x.feed(0, 97));
        refused("feed: n too large", BAD, some, x -> x.feed(9, 97));
        refused("text: letter", BAD, some, x -> x.text(6));
        refused("fault: what", BAD, some, x -> x.fault(2));
        refused("print: letter", BAD, some, x -> x.print(6, 0, 0));
        refused("print: day", BAD, some, x -> x.print(0, 10000, 0));
        refused("print: way", BAD, some, x -> x.print(0, 0, 2));
        refused("printed: letter", BAD, some, x -> x.printed(6, 0, 0, 0));
        refused("printed: day", BAD, some, x -> x.printed(0, -1, 0, 0));
        refused("printed: way", BAD, some, x -> x.printed(0, 0, -1, 0));
        refused("words: letter", BAD, some, x -> x.words(6));
        refused("differ: a", BAD, some, x -> x.differ(6, 0));
        refused("differ: b", BAD, some, x -> x.differ(0, 6));
        refused("note: letter", BAD, some, x -> x.note(6, 0));
    }

    private static void host(Builder some) {
        refused("tray: tray", BAD, some, x -> x.tray(4, 1));
        refused("tray: n above 60", BAD, some, x -> x.tray(0, 61));
        refused("tray: n below -1", SIZE_BELOW_0, some, x -> x.tray(0, -2));
        refused("cell: tray", BAD, some, x -> x.cell(4, 0, 'z'));
        refused("cell: missing", NOTHING, some, x -> x.cell(1, 0, 'z'));
        refused("cell: below 0", OUTSIDE, some, x -> x.cell(2, -1, 'z'));
        refused("cell: behind", OUTSIDE, some, x -> x.cell(0, 5, 'z'));
        refused("cell: far behind", OUTSIDE, some, x -> x.cell(2, 60, 'z'));
        refused("lay: tray", BAD, some, x -> x.lay(4, 0, 1));
        refused("lay: n", BAD, some, x -> x.lay(0, 0, -1));
        refused("lay: missing", NOTHING, some, x -> x.lay(1, 0, 1));
        refused("lay: missing, n 0", NOTHING, some, x -> x.lay(3, 0, 0));
        refused("lay: below 0", OUTSIDE, some, x -> x.lay(0, -1, 3));
        refused("lay: behind", OUTSIDE, some, x -> x.lay(0, 5, 3));
    }

    private static void severalAtOnce(Builder some) {
        refused("found: BAD ahead of STATE, the other one LOST", BAD, some, x -> x.found(4, 4));
        refused("found: BAD ahead of STATE, no such letter", BAD, some, x -> x.found(4, -1));
        refused("tray: BAD ahead of -14", BAD, some, x -> x.tray(-1, -2));
        refused("cell: BAD ahead of -12", BAD, some, x -> x.cell(-1, -1, 0));
        refused("cell: -11 ahead of -12", NOTHING, some, x -> x.cell(1, -1, 0));
        refused("lay: BAD ahead of -11", BAD, some, x -> x.lay(1, 0, -1));
        refused("lay: BAD ahead of -12", BAD, some, x -> x.lay(0, -1, -1));
        refused("lay: -11 ahead of -12", NOTHING, some, x -> x.lay(1, -1, 1));
        refused("taken: BAD ahead of -11", BAD, some, x -> x.taken(6, -1));
    }

    private static void full(Builder full) {
        refused("person: FULL", FULL, full, x -> x.person(1, 0));
        refused("person: BAD ahead of FULL", BAD, full, x -> x.person(100, 0));
        refused("letter: FULL", FULL, full, x -> x.letter(0, 0, 0, 0));
        refused("letter: BAD ahead of FULL", BAD, full, x -> x.letter(0, 10, 0, 0));
        refused("bound: FULL", FULL, full, x -> x.bound(0, 1, 3));
        refused("bound: BAD ahead of FULL", BAD, full, x -> x.bound(0, 0, 3));
        refused("hand: FULL", FULL, full, x -> x.hand(11, 1, 0));
        refused("hand: BAD ahead of FULL", BAD, full, x -> x.hand(11, 1, 10));
        refused("feed: FULL", FULL, full, x -> x.feed(1, 97));
        refused("feed: BAD ahead of FULL", BAD, full, x -> x.feed(9, 97));
        refused("lay: FULL", FULL, full, x -> x.lay(0, 0, 1));
        refused("lay: -12 ahead of FULL", OUTSIDE, full, x -> x.lay(0, 5, 1));
        refused("lay: -11 ahead of FULL", NOTHING, full, x -> x.lay(1, 0, 1));
        refused("lay: BAD ahead of FULL", BAD, full, x -> x.lay(0, 0, -1));
        refused("text: BAD, a full tape stays", BAD, full, x -> x.text(12));
        refused("jumps: more than 8", BAD, full, x -> x.jumps(0x1FF));
        refused("order: more than 8", BAD, full, x -> x.order(0x1FF, 0));
        Builder almost = () -> {
            LetterDrawer x = Desk.letters(1);
            Desk.feed(x, "a".repeat(157));
            return x;
        };
        refused("feed: FULL, with room for some of it", FULL, almost, x -> x.feed(4, 0x61616161));
    }
}
