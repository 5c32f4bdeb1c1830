/**
 * Promise by promise: the least and the greatest of each number that a call takes, those beyond, and each sentence
 * that names a boundary case.
 */
public final class EdgeTest {
    private static final int NONE = Desk.NONE, BAD = Desk.BAD, STATE = Desk.STATE, FULL = Desk.FULL;
    private static final int NOTHING = Desk.NOTHING, OUTSIDE = Desk.OUTSIDE, OTHER_SORT = Desk.OTHER_SORT,
        SIZE_BELOW_0 = Desk.SIZE_BELOW_0;
    private static final int MIN = Desk.MIN, MAX = Desk.MAX;
    private static final int LETTER = Desk.LETTER, DRAFT = Desk.DRAFT, CARD = Desk.CARD, LOST = Desk.LOST,
        CIRCULAR = Desk.CIRCULAR;
    private static final int LAST_PERSON = 2, LAST_LETTER = 3;
    private static final Check check = new Check();

    private interface Call {
        int of(LetterDrawer x, int number);
    }

    public static void main(String[] args) {
        newObject();
        persons();
        lettersComeIn();
        days();
        bounds();
        found();
        spans();
        posts();
        names();
        tape();
        texts();
        prints();
        wordsAndNotes();
        order();
        counts();
        trays();
        laying();
        taken();
        check.end();
    }

    private static void sentence(String text) {
        check.sentence(text);
    }

    private static void due(String call, long got, long want) {
        check.due(call, got, want);
    }

    /** Three PERSONS, four LETTERS (1 LOST, 3 LOST and FOUND to be 2), a TEXT, a BOUND, a HAND's word, a TRAY, a tape. */
    private static LetterDrawer desk() {
        LetterDrawer x = new LetterDrawer();
        for (int i = 0; i <= LAST_PERSON; i++) {
            x.person(1 + i, i);
        }
        for (int kind : new int[] {LETTER, LOST, CARD, LOST}) {
            x.letter(kind, 0, 1, 0);
        }
        x.found(3, 2);
        x.week(3, 0);
        x.bound(0, 1, 0);
        x.hand(0, 3, 1);
        Desk.write(x, 0, "ab{n1}");
        x.tray(0, 5);
        Desk.feed(x, "xy");
        return x;
    }

    /** All from least to greatest are taken, those beyond on either side are answered with what is told. */
    private static void range(String what, int least, int greatest, int beyond, Call call) {
        for (int number : new int[] {MIN, least - 2, least - 1}) {
            due(what + " " + number, call.of(desk(), number), beyond);
        }
        for (int number : new int[] {greatest + 1, greatest + 2, MAX}) {
            due(what + " " + number, call.of(desk(), number), beyond);
        }
        for (int number : new int[] {least, least + 1, greatest - 1, greatest}) {
            int answer = call.of(desk(), number);
            check.holds(what + " " + number + " is taken, not " + answer, answer != beyond && answer != BAD);
        }
    }

    private static void bad(String what, int least, int greatest, Call call) {
        range(what, least, greatest, BAD, call);
    }

    private static void newObject() {
        sentence("1: Nothing at all");
        LetterDrawer x = new LetterDrawer();
        for (int what = 0; what <= 5; what++) {
            due("count " + what, x.count(what), 0);
        }
        due("a LETTER", x.told(0, 0), BAD);
        due("a PERSON", x.lived(0, 0, 0), BAD);
        due("a BOUND", x.loose(), STATE);
        due("a CLASH", x.clash(), NONE);
        due("a FAULT", x.fault(0), 0);
        due("a TRAY", x.lay(0, 0, 0), NOTHING);

        sentence("1: objects know nothing of each other");
        LetterDrawer y = desk();
        due("the old one", x.count(1), 0);
        due("the new one", y.count(1), 4);
        due("the newest one", new LetterDrawer().count(1), 0);
    }

    private static void persons() {
        sentence("2: BAD");
        bad("name", 1, 99, (x, v) -> x.person(v, 0));
        bad("place", 0, 5, (x, v) -> x.person(1, v));

        sentence("2: FULL");
        LetterDrawer x = Desk.with(9);
        due("the 10th", x.person(99, 5), 9);
        due("the 11th", x.person(99, 5), FULL);
        due("and again", x.person(1, 0), FULL);

        sentence("3: BAD");
        bad("person", 0, LAST_PERSON, (y, v) -> y.lived(v, 0, 9999));
        bad("first", 0, 9999, (y, v) -> y.lived(0, v, 9999));
        bad("last", 0, 9999, (y, v) -> y.lived(0, 0, v));

        sentence("3: first and last of one DAY");
        x = Desk.with(2, LETTER);
        x.knows(0, 1, true);
        x.days(0, 9999, 9999);
        due("lived", x.lived(1, 9999, 9999), 1);
        due("means", x.means(0, 2), 1);
        due("lived", x.lived(1, 0, 0), 1);
        due("means", x.means(0, 2), 0);

        sentence("4: BAD");
        bad("a", 0, LAST_PERSON, (y, v) -> y.knows(v, 0, true));
        bad("b", 0, LAST_PERSON, (y, v) -> y.knows(0, v, false));

        sentence("4: 1 if it was otherwise, else 0");
        x = Desk.with(10);
        for (int a = 0; a < 10; a++) {
            for (int b = 0; b < 10; b++) {
                due(b + " not KNOWN to " + a, x.knows(a, b, false), 0);
                due(b + " KNOWN to " + a, x.knows(a, b, true), 1);
                due(b + " KNOWN already to " + a, x.knows(a, b, true), 0);
            }
        }
        due("the first not any more", x.knows(0, 0, false), 1);
        due("the last not any more", x.knows(9, 9, false), 1);
        due("nor again", x.knows(9, 9, false), 0);
        due("another one still", x.knows(9, 8, true), 0);
    }

    private static void lettersComeIn() {
        sentence("5: BAD");
        bad("kind", 0, 5, (x, v) -> x.letter(v, 0, 0, 0));
        bad("from", 0, LAST_PERSON, (x, v) -> x.letter(0, v, 0, 0));
        bad("to", 0, LAST_PERSON, (x, v) -> x.letter(0, 0, v, 0));
        bad("place", 0, 5, (x, v) -> x.letter(0, 0, 0, v));

        sentence("5: BAD, as long as there is no PERSON");
        LetterDrawer x = new LetterDrawer();
        due("letter", x.letter(0, 0, 0, 0), BAD);

        sentence("5: FULL");
        x = Desk.letters(11);
        due("the 12th", x.letter(5, 0, 0, 5), 11);
        due("the 13th", x.letter(0, 0, 0, 0), FULL);
        due("and again", x.letter(0, 0, 0, 0), FULL);

        sentence("5: without TEXT");
        due("bytes", x.told(11, 8), 0);
        due("print", x.print(11, 0, 1), 0);
        due("words", x.words(11), 0);
        due("note", x.note(11, 0), NONE);

        sentence("6: BAD");
        bad("letter", 0, LAST_LETTER, (y, v) -> y.told(v, 0));
        bad("what", 0, 8, (y, v) -> y.told(3, v));

        sentence("6: 0 KIND .. 3 PLACE");
        x = Desk.with(2);
        x.letter(CIRCULAR, 1, 0, 4);
        int[] told = {CIRCULAR, 1, 0, 4};
        for (int what = 0; what < told.length; what++) {
            due("what " + what, x.told(0, what), told[what]);
        }

        sentence("6: 4, 5 the least, greatest DAY as told");
        x = Desk.letters(2);
        x.days(0, 1, 8);
        x.days(1, 3, 9);
        x.week(0, 0);
        x.bound(0, 1, 0);
        due("least, not of THE SPAN", x.told(0, 4), 1);
        due("greatest, not of THE SPAN", x.told(0, 5), 8);
        due("least, not of THE SPAN", x.told(1, 4), 3);

        sentence("6: 6 WEEKDAY (NONE)");
        x = Desk.letters(1);
        due("at first", x.told(0, 6), NONE);
        x.week(0, 0);
        due("0", x.told(0, 6), 0);
        x.week(0, NONE);
        due("none again", x.told(0, 6), NONE);

        sentence("6: 7 the LETTER that it is by FOUND (NONE)");
        x = Desk.with(1, LETTER, LOST);
        due("at first", x.told(1, 7), NONE);
        x.found(1, 0);
        due("0", x.told(1, 7), 0);
        due("of the other one", x.told(0, 7), NONE);
        x.lose(1);
        due("none again", x.told(1, 7), NONE);

        sentence("6: 8 bytes of its TEXT");
        x = Desk.letters(1);
        due("at first", x.told(0, 8), 0);
        Desk.write(x, 0, "a".repeat(160));
        due("160", x.told(0, 8), 160);
        Desk.write(x, 0, "{d");
        due("after a FAULT", x.told(0, 8), 160);
        x.text(0);
        due("none again", x.told(0, 8), 0);
    }

    private static void days() {
        sentence("7: BAD");
        bad("letter", 0, LAST_LETTER, (x, v) -> x.days(v, 0, 9999));
        bad("least", 0, 9999, (x, v) -> x.days(0, v, 9999));
        bad("most", 0, 9999, (x, v) -> x.days(0, 0, v));

        sentence("7: BAD: also the least above the greatest");
        LetterDrawer x = Desk.letters(1);
        due("by 1", x.days(0, 51, 50), BAD);
        due("by all", x.days(0, 9999, 0), BAD);
        due("like ones", x.days(0, 50, 50), 1);
        due("span", x.span(0, 0), 50);
        due("span", x.span(0, 1), 50);
        due("0", x.days(0, 0, 0), 1);
        due("9999", x.days(0, 9999, 9999), 1);
        due("span", x.span(0, 0), 9999);

        sentence("8: BAD");
        bad("letter", 0, LAST_LETTER, (y, v) -> y.week(v, 0));
        bad("day", NONE, 6, (y, v) -> y.week(0, v));

        sentence("8: WEEKDAY (0 .. 6), or none (NONE)");
        x = Desk.letters(1);
        x.days(0, 70, 76);
        for (int weekday = 0; weekday <= 6; weekday++) {
            due("week", x.week(0, weekday), 1);
            due("least", x.span(0, 0), 70 + weekday);
            due("greatest", x.span(0, 1), 70 + weekday);
        }
        due("none", x.week(0, NONE), 1);
        due("least", x.span(0, 0), 70);
        due("greatest", x.span(0, 1), 76);
        due("none again", x.week(0, NONE), 1);
    }

    private static void bounds() {
        sentence("9: BAD");
        bad("a", 0, LAST_LETTER, (x, v) -> x.bound(v, v == 0 ? 1 : 0, 0));
        bad("b", 0, LAST_LETTER, (x, v) -> x.bound(v == 0 ? 1 : 0, v, 0));
        bad("d", -500, 500, (x, v) -> x.bound(0, 1, v));

        sentence("9: BAD: also a = b");
        for (int i = 0; i <= LAST_LETTER; i++) {
            due("bound of " + i, desk().bound(i, i, 0), BAD);
            due("bound of " + i, desk().bound(i, i, -1), BAD);
        }
        due("a LOST one and what it is FOUND to be are two", desk().bound(2, 3, 0), 2);

        sentence("9: how many there are; FULL");
        LetterDrawer x = Desk.letters(2);
        for (int i = 1; i <= 20; i++) {
            due("bound", x.bound(i % 2, 1 - i % 2, -1), i);
        }
        due("the 21st", x.bound(0, 1, -1), FULL);

        sentence("10: The BOUND that came last goes: how many there are");
        for (int i = 19; i >= 0; i--) {
            due("loose", x.loose(), i);
        }

        sentence("10: STATE: there is none");
        due("all went", x.loose(), STATE);
        due("and again", x.loose(), STATE);
        due("none came", new LetterDrawer().loose(), STATE);
        due("how many", x.count(2), 0);
        due("one comes", x.bound(0, 1, 3), 1);
        due("least", x.span(1, 0), 3);
    }

    private static void found() {
        sentence("11: BAD: no such LETTERS");
        LetterDrawer x = desk();
        for (int letter : new int[] {MIN, -1, 4, MAX}) {
            due("lost " + letter, x.found(letter, 0), BAD);
            due("letter " + letter, x.found(1, letter), BAD);
        }

        sentence("11: BAD: it is not LOST");
        for (int kind : new int[] {0, 1, 2, 3, 5}) {
            x = Desk.with(1, kind, LETTER);
            due("KIND " + kind, x.found(0, 1), BAD);
        }

        sentence("11: BAD: the other one is");
        x = Desk.with(1, LOST, LOST, LETTER);
        due("another LOST one", x.found(0, 1), BAD);
        due("itself", x.found(0, 0), BAD);
        x.found(1, 2);
        due("a FOUND one is LOST by its KIND", x.found(0, 1), BAD);

        sentence("11: STATE: it is FOUND");
        due("the same", x.found(1, 2), STATE);
        x.letter(LETTER, 0, 0, 0);
        due("another one", x.found(1, 3), STATE);
        due("kept", x.told(1, 7), 2);
        due("BAD ahead of it", x.found(1, 0), BAD);
        due("not so when lost again", x.lose(1), 1);
        due("another one", x.found(1, 3), 1);

        sentence("12: BAD: no such LETTER");
        x = desk();
        for (int letter : new int[] {MIN, -2, -1, 4, 5, MAX}) {
            due("lost " + letter, x.lose(letter), BAD);
        }

        sentence("12: STATE: it is not FOUND (not LOST at all, too)");
        due("not FOUND", x.lose(1), STATE);
        due("not LOST", x.lose(0), STATE);
        due("what another one is FOUND to be", x.lose(2), STATE);
        due("FOUND", x.lose(3), 1);
        due("not any more", x.lose(3), STATE);

        sentence("12: It is as if it were not FOUND");
        x = Desk.with(1, LOST, LETTER);
        x.days(0, 0, 4);
        x.days(1, 5, 9);
        x.found(0, 1);
        due("CLASH", x.clash(), 0);
        x.lose(0);
        due("none", x.clash(), NONE);
        due("span", x.span(0, 1), 4);
        due("count", x.count(3), 1);
    }

    private static void spans() {
        sentence("13: BAD");
        bad("letter", 0, LAST_LETTER, (x, v) -> x.span(v, 0));
        due("what -1", desk().span(0, -1), BAD);
        due("what 2", desk().span(0, 2), BAD);
        due("what MIN", desk().span(0, MIN), BAD);
        due("what MAX", desk().span(0, MAX), BAD);

        sentence("13: NONE: they CLASH");
        LetterDrawer x = Desk.letters(3);
        x.bound(0, 1, 1);
        x.bound(1, 0, 0);
        for (int letter = 0; letter < 3; letter++) {
            due("least of " + letter, x.span(letter, 0), NONE);
            due("greatest of " + letter, x.span(letter, 1), NONE);
        }
        due("BAD also then", x.span(3, 0), BAD);

        sentence("14: NONE: there is none");
        due("empty", new LetterDrawer().clash(), NONE);
        due("with LETTERS", desk().clash(), NONE);
        x.loose();
        due("no more", x.clash(), NONE);

        sentence("14: 0 and bits");
        x = Desk.letters(2);
        x.bound(0, 1, 0);
        x.days(0, 1, 1);
        x.days(1, 0, 0);
        due("the first BOUND", x.clash(), 1);
        x.week(0, 0);
        due("without any", x.clash(), 0);

        sentence("15: BAD: also a = b");
        bad("a", 0, LAST_LETTER, (y, v) -> y.before(v, v == 0 ? 1 : 0));
        bad("b", 0, LAST_LETTER, (y, v) -> y.before(v == 0 ? 1 : 0, v));
        for (int i = 0; i <= LAST_LETTER; i++) {
            due("before " + i, desk().before(i, i), BAD);
        }

        sentence("15: 1, 0");
        x = Desk.letters(2);
        due("0", x.before(0, 1), 0);
        x.bound(0, 1, 1);
        due("1", x.before(0, 1), 1);
        x.bound(1, 0, 0);
        due("they CLASH", x.before(0, 1), 0);
        due("BAD also then", x.before(0, 0), BAD);
        due("BAD also then", x.before(0, 2), BAD);
    }

    private static void posts() {
        sentence("16: BAD");
        bad("from", 0, 5, (x, v) -> x.post(v, 0, 0, 0));
        bad("to", 0, 5, (x, v) -> x.post(0, v, 0, 0));

        sentence("16: BAD: least, most 0 .. 400");
        bad("least", 0, 400, (x, v) -> x.post(0, 1, v, 400));
        bad("most", 0, 400, (x, v) -> x.post(0, 1, 0, v));
        due("both above", desk().post(0, 1, 401, 401), BAD);
        due("both below", desk().post(0, 1, -1, -1), BAD);

        sentence("16: BAD: least above most");
        due("by 1", desk().post(0, 1, 5, 4), BAD);
        due("by all", desk().post(0, 1, 400, 0), BAD);
        due("like ones", desk().post(0, 1, 5, 5), 1);
        due("like ones", desk().post(0, 1, 0, 0), 1);
        due("like ones", desk().post(0, 1, 400, 400), 1);

        sentence("16: 400 DAYS");
        LetterDrawer x = Desk.with(1, LETTER);
        x.post(0, 0, 399, 400);
        x.days(0, 0, 0);
        due("CAN not yet", x.read(0, 0, 398, 0), 0);
        due("CAN", x.read(0, 0, 399, 0), 1);
        due("MUST not yet", x.read(0, 0, 399, 1), 0);
        due("MUST", x.read(0, 0, 400, 1), 1);

        sentence("17: BAD");
        bad("letter", 0, LAST_LETTER, (y, v) -> y.read(v, 0, 0, 0));
        bad("person", 0, LAST_PERSON, (y, v) -> y.read(0, v, 0, 0));
        bad("day", 0, 9999, (y, v) -> y.read(0, 0, v, 0));
        bad("what", 0, 1, (y, v) -> y.read(0, 0, 0, v));

        sentence("17: 0: it is not its reader");
        x = Desk.with(3, LETTER);
        due("the writer", x.read(0, 0, 9999, 0), 0);
        due("another one", x.read(0, 1, 9999, 0), 0);
        due("the reader", x.read(0, 2, 9999, 0), 1);

        sentence("17: 0: they CLASH");
        x.days(0, 1, 1);
        x.week(0, 1);
        due("not yet", x.read(0, 2, 9999, 1), 1);
        x.week(0, 2);
        due("CAN", x.read(0, 2, 9999, 0), 0);
        due("MUST", x.read(0, 2, 9999, 1), 0);
        due("BAD also then", x.read(0, 3, 9999, 0), BAD);

        sentence("18: BAD");
        bad("person", 0, LAST_PERSON, (y, v) -> y.reads(v, 0, 0));
        bad("day", 0, 9999, (y, v) -> y.reads(0, v, 0));
        bad("what", 0, 1, (y, v) -> y.reads(0, 0, v));

        sentence("18: How many LETTERS: none, all, none if they CLASH");
        x = Desk.with(1);
        due("none there", x.reads(0, 9999, 0), 0);
        for (int i = 0; i < 12; i++) {
            x.letter(LETTER, 0, 0, 0);
            x.days(i, 100 + i, 200 + i);
        }
        due("CAN none", x.reads(0, 99, 0), 0);
        due("CAN one", x.reads(0, 100, 0), 1);
        due("CAN but one", x.reads(0, 110, 0), 11);
        due("CAN all", x.reads(0, 111, 0), 12);
        due("MUST none", x.reads(0, 201, 1), 0);
        due("MUST one", x.reads(0, 202, 1), 1);
        due("MUST but one", x.reads(0, 212, 1), 11);
        due("MUST all", x.reads(0, 213, 1), 12);
        x.bound(11, 0, 101);
        due("CLASH", x.reads(0, 9999, 0), 0);
        due("BAD also then", x.reads(1, 9999, 0), BAD);
    }

    private static void names() {
        sentence("19: BAD");
        bad("letter", 0, LAST_LETTER, (x, v) -> x.means(v, 1));
        bad("name", 1, 99, (x, v) -> x.means(0, v));

        sentence("19: How many: 0 .. 10");
        LetterDrawer x = new LetterDrawer();
        for (int i = 0; i < 10; i++) {
            x.person(99, 0);
        }
        x.letter(LETTER, 9, 9, 0);
        for (int i = 9; i >= 0; i--) {
            due("means", x.means(0, 99), 9 - i);
            x.knows(9, i, true);
        }
        due("means all", x.means(0, 99), 10);

        sentence("19: (1, if there is a HAND's word)");
        x.hand(0, 99, 4);
        due("of ten", x.means(0, 99), 1);
        due("of none", x.means(0, 98), 0);
        x.hand(0, 98, 4);
        due("of none, with the word", x.means(0, 98), 1);

        sentence("20: BAD");
        bad("letter", 0, LAST_LETTER, (y, v) -> y.who(v, 1));
        bad("name", 1, 99, (y, v) -> y.who(0, v));

        sentence("20: NONE: it is not SURE");
        x = Desk.with(10, LETTER);
        due("none", x.who(0, 10), NONE);
        x.knows(0, 9, true);
        due("the last PERSON", x.who(0, 10), 9);
        x.knows(0, 0, true);
        due("the first PERSON", x.who(0, 1), 0);
        x.lived(0, 0, 5);
        x.days(0, 6, 6);
        due("not in those DAYS", x.who(0, 1), NONE);

        sentence("21: BAD");
        bad("letter", 0, LAST_LETTER, (y, v) -> y.hand(v, 1, 0));
        bad("name", 1, 99, (y, v) -> y.hand(0, v, 0));
        bad("person", 0, LAST_PERSON, (y, v) -> y.hand(0, 1, v));

        sentence("21: FULL: 10 of unlike LETTERS and NAMES");
        x = Desk.with(2, LETTER, LETTER);
        for (int i = 0; i < 10; i++) {
            due("hand", x.hand(i % 2, 90 + i / 2, 0), i + 1);
        }
        due("a NAME more", x.hand(0, 95, 0), FULL);
        due("it did not come", x.who(0, 95), NONE);
        for (int i = 0; i < 10; i++) {
            due("a like one", x.hand(i % 2, 90 + i / 2, 1), 10);
            due("the latest", x.who(i % 2, 90 + i / 2), 1);
        }
        due("how many", x.count(5), 10);
    }

    private static void tape() {
        sentence("22: BAD: n is not 1 .. 8");
        bad("n", 1, 8, (x, v) -> x.feed(v, 97));

        sentence("22: The n lowest bytes of a number, the lowest first");
        LetterDrawer x = Desk.letters(1);
        long bytes = 0x6867666564636261L;
        for (int n = 1; n <= 8; n++) {
            due("feed", x.feed(n, bytes), n);
            due("text", x.text(0), n);
            check.holds(n + " bytes", Desk.print(x, 0, 0, 0).equals("abcdefgh".substring(0, n)));
        }

        sentence("22: a number below 0");
        due("all bits", x.feed(8, -1L), 8);
        due("a byte of 255 can't stand", x.text(0), -21);
        due("place", x.fault(1), 0);
        due("the lowest byte", x.feed(1, 0xFFFFFFFFFFFFFF61L), 1);
        due("stands alone", x.text(0), 1);
        due("the highest bit", x.feed(8, 0xE161616161616161L), 8);
        due("in the last byte", x.text(0), -21);
        due("place", x.fault(1), 7);

        sentence("22: FULL");
        x = Desk.letters(1);
        Desk.feed(x, "a".repeat(155));
        for (int n = 6; n <= 8; n++) {
            due("too many: " + n, x.feed(n, bytes), FULL);
            due("nothing came", x.count(4), 155);
        }
        due("just as many", x.feed(5, bytes), 160);
        for (int n = 1; n <= 8; n++) {
            due("no room for " + n, x.feed(n, bytes), FULL);
        }
        due("all stands", x.text(0), 160);
        due("the last byte", x.printed(0, 0, 0, 159), 'e');
        due("room again", x.feed(8, bytes), 8);
    }

    private static void texts() {
        sentence("23: BAD (THE TAPE stays)");
        bad("letter", 0, LAST_LETTER, (x, v) -> x.text(v));
        LetterDrawer x = desk();
        due("no such LETTER", x.text(4), BAD);
        due("the tape", x.count(4), 2);
        due("text", x.text(3), 2);
        check.holds("as it was", Desk.print(x, 3, 0, 0).equals("xy"));

        sentence("23: THE TAPE, which is empty then (by a FAULT, too)");
        x = Desk.letters(1);
        due("text", Desk.write(x, 0, "abc"), 3);
        due("empty", x.count(4), 0);
        due("kind 1", Desk.write(x, 0, "{"), -21);
        due("empty", x.count(4), 0);
        due("kind 2", Desk.write(x, 0, "{n1}"), -22);
        due("empty", x.count(4), 0);

        sentence("23: (its TEXT stays)");
        due("bytes", x.told(0, 8), 3);
        check.holds("as it was", Desk.print(x, 0, 0, 0).equals("abc"));

        sentence("23: (its TEXT stays), whatever its FAULT leaves open");
        LetterDrawer y = Desk.letters(2);
        Desk.write(y, 0, "a{n1}{ub}");
        for (String fault : new String[] {"{", "{a", "{s", "{s1", "{n", "{a{d{u{h", "{a{a", "}", "{a{n9}"}) {
            due("kind 1 of " + fault, Desk.write(y, 0, fault), -21);
            due("note", y.note(0, 0), 1);
            Desk.write(y, 0, fault);
            check.holds("printed", Desk.print(y, 0, 0, 1).equals("a(1)[b]"));
            Desk.write(y, 0, fault);
            due("words", y.words(0), 1);
            Desk.write(y, 1, fault);
            due("text", Desk.write(y, 1, "ab"), 2);
            due("differ", y.differ(0, 1), 0);
        }

        sentence("23: how many bytes: 0 .. 160");
        due("160", Desk.write(x, 0, "{a" + "b".repeat(157) + "}"), 160);
        due("0", x.text(0), 0);
        due("nothing left", x.print(0, 0, 1), 0);

        sentence("23: of one LETTER only");
        x = Desk.letters(12);
        Desk.write(x, 0, "a");
        Desk.write(x, 11, "bb");
        due("the first", x.told(0, 8), 1);
        due("between", x.told(1, 8), 0);
        due("the last", x.told(11, 8), 2);

        sentence("24: BAD");
        for (int what : new int[] {MIN, -1, 2, MAX}) {
            due("what " + what, new LetterDrawer().fault(what), BAD);
        }

        sentence("24: (0, NONE ahead of any)");
        x = Desk.letters(1);
        due("kind", x.fault(0), 0);
        due("place", x.fault(1), NONE);
        Desk.feed(x, "!");
        due("fed only: kind", x.fault(0), 0);
        due("fed only: place", x.fault(1), NONE);

        sentence("24: Of the latest text() (but BAD)");
        due("text", x.text(0), -21);
        due("place 0", x.fault(1), 0);
        due("BAD", x.text(1), BAD);
        due("kind", x.fault(0), 1);
        due("place", x.fault(1), 0);
        due("text", Desk.write(x, 0, "a{n1}"), -22);
        due("kind", x.fault(0), 2);
        due("place", x.fault(1), 1);

        sentence("24: (0, NONE without one)");
        due("text", Desk.write(x, 0, "a"), 1);
        due("kind", x.fault(0), 0);
        due("place", x.fault(1), NONE);
    }

    private static void prints() {
        sentence("25: BAD");
        bad("letter", 0, LAST_LETTER, (x, v) -> x.print(v, 0, 0));
        bad("day", 0, 9999, (x, v) -> x.print(0, v, 0));
        bad("way", 0, 1, (x, v) -> x.print(0, 0, v));

        sentence("25: How many bytes: none, all");
        LetterDrawer x = Desk.letters(1);
        due("without TEXT", x.print(0, 0, 0), 0);
        due("without TEXT", x.print(0, 0, 1), 0);
        Desk.write(x, 0, "{d" + "x".repeat(157) + "}");
        due("PLAIN none", x.print(0, 0, 0), 0);
        due("PRINTED all", x.print(0, 0, 1), 159);
        Desk.write(x, 0, "x".repeat(160));
        due("PLAIN 160", x.print(0, 0, 0), 160);
        due("PRINTED 160", x.print(0, 0, 1), 160);

        sentence("26: BAD");
        bad("letter", 0, LAST_LETTER, (y, v) -> y.printed(v, 0, 0, 0));
        bad("day", 0, 9999, (y, v) -> y.printed(0, v, 0, 0));
        bad("way", 0, 1, (y, v) -> y.printed(0, 0, v, 0));
        due("BAD ahead of NONE", desk().printed(0, 0, 2, 99), BAD);

        sentence("26: NONE: none such");
        range("byte PRINTED", 0, 4, NONE, (y, v) -> y.printed(0, 0, 1, v));
        range("byte PLAIN", 0, 1, NONE, (y, v) -> y.printed(0, 0, 0, v));
        due("without TEXT", desk().printed(1, 0, 0, 0), NONE);
        due("the last of 160", x.printed(0, 0, 0, 159), 'x');
        due("behind it", x.printed(0, 0, 0, 160), NONE);
    }

    private static void wordsAndNotes() {
        sentence("27: BAD");
        bad("letter", 0, LAST_LETTER, (x, v) -> x.words(v));

        sentence("27: How many WORDS: none .. 80");
        LetterDrawer x = Desk.letters(2);
        due("without TEXT", x.words(0), 0);
        Desk.write(x, 0, " a".repeat(80));
        due("80", x.words(0), 80);
        Desk.write(x, 0, "{da}");
        due("none", x.words(0), 0);

        sentence("28: BAD");
        bad("a", 0, LAST_LETTER, (y, v) -> y.differ(v, 0));
        bad("b", 0, LAST_LETTER, (y, v) -> y.differ(0, v));

        sentence("28: By how much: 0 .. 80, of a = b too");
        x = Desk.letters(2);
        due("both without TEXT", x.differ(0, 1), 0);
        Desk.write(x, 0, "a ".repeat(80));
        due("to none", x.differ(0, 1), 80);
        due("from none", x.differ(1, 0), 80);
        due("a = b", x.differ(0, 0), 0);
        Desk.write(x, 1, "a ".repeat(79) + "b");
        due("the last word", x.differ(0, 1), 1);
        Desk.write(x, 1, "b" + " a".repeat(79));
        due("the first word", x.differ(1, 0), 1);

        sentence("29: BAD");
        bad("letter", 0, LAST_LETTER, (y, v) -> y.note(v, 0));
        due("BAD ahead of NONE", desk().note(4, 7), BAD);

        sentence("29: NONE: none such");
        x = Desk.letters(12);
        Desk.write(x, 0, "{n0}".repeat(39) + "{n1}");
        for (int i = 0; i < 39; i++) {
            due("note " + i, x.note(0, i), 0);
        }
        due("the last of 40", x.note(0, 39), 1);
        for (int i : new int[] {MIN, -1, 40, MAX}) {
            due("note " + i, x.note(0, i), NONE);
        }
        due("without TEXT", x.note(1, 0), NONE);

        sentence("29: (from 0 on, as they stand)");
        Desk.write(x, 0, "{n11}{d{n5}{a{n0}}}{s9999:{n0007}}{n11}");
        int[] notes = {11, 5, 0, 7, 11, NONE};
        for (int i = 0; i < notes.length; i++) {
            due("note " + i, x.note(0, i), notes[i]);
        }
    }

    private static void order() {
        sentence("30: BAD: bits of others");
        bad("letters", 0, 15, (x, v) -> x.jumps(v));
        due("the highest of 12", Desk.letters(12).jumps(1 << 11), 0);
        due("a 13th", Desk.letters(12).jumps(1 << 12), BAD);
        due("no LETTERS at all", new LetterDrawer().jumps(1), BAD);
        due("none of none", new LetterDrawer().jumps(0), 0);

        sentence("30: BAD: more than 8");
        due("eight", Desk.letters(12).jumps(0xFF0), 0);
        due("nine", Desk.letters(12).jumps(0xFF8), BAD);
        due("twelve", Desk.letters(12).jumps(0xFFF), BAD);

        sentence("30: NONE: there is none");
        LetterDrawer x = Desk.letters(2);
        x.bound(0, 1, 1);
        due("one", x.jumps(3), 1);
        x.bound(1, 0, 0);
        due("CLASH", x.jumps(3), NONE);
        due("of one LETTER", x.jumps(1), NONE);
        due("BAD also then", x.jumps(4), BAD);
        due("BAD also then", x.jumps(-1), BAD);

        sentence("31: BAD");
        bad("letters", 0, 15, (y, v) -> y.order(v, 0));
        due("more than 8", Desk.letters(12).order(0x1FF, 0), BAD);
        due("BAD ahead of NONE", Desk.letters(12).order(0x1FF, 9), BAD);

        sentence("31: NONE: none such");
        range("i", 0, 3, NONE, (y, v) -> y.order(15, v));
        range("i", 0, 7, NONE, (y, v) -> Desk.letters(12).order(0xFF, v));
        due("of the empty set", desk().order(0, 0), NONE);
        due("of one", desk().order(8, 0), 3);
        due("of one", desk().order(8, 1), NONE);
        due("CLASH", x.order(3, 0), NONE);
        due("BAD also then", x.order(4, 0), BAD);
    }

    private static void counts() {
        sentence("32: BAD");
        bad("what", 0, 5, (x, v) -> x.count(v));

        sentence("32: How many: none, all");
        LetterDrawer x = new LetterDrawer();
        for (int i = 0; i < 11; i++) {
            due("PERSONS", x.count(0), Math.min(i, 10));
            x.person(1, 0);
        }
        for (int i = 0; i < 13; i++) {
            due("LETTERS", x.count(1), Math.min(i, 12));
            due("LOST", x.count(3), Math.min(i, 12));
            x.letter(LOST, 0, 0, 0);
        }
        for (int i = 0; i < 21; i++) {
            due("BOUNDS", x.count(2), Math.min(i, 20));
            x.bound(0, 1, 0);
        }
        for (int i = 0; i < 12; i++) {
            due("HANDS", x.count(5), Math.min(i, 10));
            x.hand(i, 1, 0);
        }
        for (int i = 0; i < 21; i++) {
            due("bytes", x.count(4), 8 * i);
            x.feed(8, 0);
        }
        due("bytes", x.count(4), 160);

        sentence("32: 3 LOST ones that are not FOUND");
        x = Desk.with(1, LOST, LOST, DRAFT);
        due("both", x.count(3), 2);
        x.found(1, 2);
        due("one", x.count(3), 1);
        x.found(0, 2);
        due("none", x.count(3), 0);
        x.lose(1);
        due("one again", x.count(3), 1);
    }

    private static void trays() {
        sentence("33: BAD: no such TRAY, n above 60");
        bad("tray", 0, 3, (x, v) -> x.tray(v, 1));
        for (int n : new int[] {61, 62, MAX}) {
            due("n " + n, desk().tray(0, n), BAD);
        }

        sentence("33: -14 (n below -1)");
        for (int n : new int[] {-2, -3, MIN}) {
            due("n " + n, desk().tray(0, n), SIZE_BELOW_0);
            due("no such TRAY ahead of it, n " + n, desk().tray(4, n), BAD);
        }

        sentence("33: A TRAY is a row of n bytes, 0 .. 60");
        for (int n = 0; n <= 60; n++) {
            LetterDrawer x = new LetterDrawer();
            due("tray of " + n, x.tray(3, n), 1);
            due("the last byte", x.cell(3, n - 1, 'a'), n == 0 ? OUTSIDE : 1);
            due("behind it", x.cell(3, n, 'a'), OUTSIDE);
            due("all of it", x.lay(3, 0, n), n);
        }

        sentence("33: all 0");
        LetterDrawer x = Desk.letters(1);
        for (int i = 0; i < 60; i++) {
            x.tray(2, 60);
            for (int j = 0; j < 60; j++) {
                x.cell(2, j, 'a');
            }
            x.tray(2, 60);
            x.lay(2, i, 1);
            due("byte " + i, x.text(0), -21);
            x = Desk.letters(1);
        }

        sentence("33: also from a shorter row to a longer one");
        x = Desk.letters(1);
        x.tray(1, 2);
        x.cell(1, 0, 'a');
        x.cell(1, 1, 'b');
        x.tray(1, 0);
        x.tray(1, 2);
        x.cell(1, 0, 'c');
        x.lay(1, 0, 2);
        due("the second byte is 0", x.text(0), -21);
        due("place", x.fault(1), 1);

        sentence("33: n NONE: it is missing");
        due("tray", x.tray(1, NONE), 1);
        due("cell", x.cell(1, 0, 'a'), NOTHING);
        due("lay", x.lay(1, 0, 1), NOTHING);
        due("missing already", x.tray(1, NONE), 1);
        due("another one stays", desk().tray(1, NONE), 1);
        due("another one stays", desk().cell(0, 4, 0), 1);

        sentence("34: BAD: no such TRAY");
        bad("tray", 0, 3, (y, v) -> y.cell(v, 0, 0));

        sentence("34: -11; -12");
        due("missing", desk().cell(1, 0, 0), NOTHING);
        due("missing, a place outside", desk().cell(1, -1, 0), NOTHING);
        range("i", 0, 4, OUTSIDE, (y, v) -> y.cell(0, v, 0));

        sentence("34: v (its lowest 8 bits)");
        int[] values = {'a', 'a' + 256, 'a' - 256, 'a' + (1 << 30), 'a' + MIN};
        for (int v : values) {
            x = Desk.letters(1);
            x.tray(0, 1);
            due("cell", x.cell(0, 0, v), 1);
            x.lay(0, 0, 1);
            due("text", x.text(0), 1);
            due("byte by " + v, x.printed(0, 0, 0, 0), 'a');
        }
        for (int v : new int[] {MIN, -1, 0, 255, 256, MAX}) {
            due("any v is taken: " + v, desk().cell(0, 0, v), 1);
        }
    }

    private static void laying() {
        sentence("35: BAD: no such TRAY, n below 0");
        bad("tray", 0, 3, (x, v) -> {
            x.tray(1, 1);
            x.tray(2, 1);
            x.tray(3, 1);
            return x.lay(v, 0, 1);
        });
        for (int n : new int[] {MIN, -2, -1}) {
            due("n " + n, desk().lay(0, 0, n), BAD);
            due("ahead of -11, n " + n, desk().lay(1, 0, n), BAD);
            due("ahead of -12, n " + n, desk().lay(0, 9, n), BAD);
        }

        sentence("35: -11 (also with n 0)");
        due("n 0", desk().lay(1, 0, 0), NOTHING);
        due("n 1", desk().lay(1, 0, 1), NOTHING);
        due("ahead of -12", desk().lay(1, 9, 1), NOTHING);

        sentence("35: n 0");
        due("on a tape of two", desk().lay(0, 0, 0), 2);
        due("from where there is none", desk().lay(0, 5, 0), 2);
        LetterDrawer empty = new LetterDrawer();
        empty.tray(0, 0);
        due("of a row of none, on an empty tape", empty.lay(0, 0, 0), 0);

        sentence("35: -12 (what stood ahead came)");
        int[][] rows = {{0, 6, 5}, {4, 2, 1}, {5, 1, 0}, {-1, 3, 0}, {-1, 1, 0}, {0, MAX, 5}, {3, MAX, 2}, {MAX, MAX, 0},
            {MAX, 1, 0}, {MIN, MAX, 0}, {MIN, 1, 0}};
        for (int[] row : rows) {
            LetterDrawer x = desk();
            due("from " + row[0] + ", " + row[1], x.lay(0, row[0], row[1]), OUTSIDE);
            due("how many came", x.count(4), 2 + row[2]);
        }
        LetterDrawer x = Desk.letters(1);
        x.tray(0, 3);
        for (int i = 0; i < 3; i++) {
            x.cell(0, i, 'a' + i);
        }
        x.lay(0, 1, 3);
        due("text", x.text(0), 2);
        check.holds("those from the place on", Desk.print(x, 0, 0, 0).equals("bc"));

        sentence("35: FULL (likewise)");
        x = Desk.letters(1);
        x.tray(0, 60);
        for (int i = 0; i < 60; i++) {
            x.cell(0, i, 'a' + i % 26);
        }
        x.lay(0, 0, 60);
        x.lay(0, 0, 38);
        due("98 and 60", x.lay(0, 0, 60), 158);
        due("three for two", x.lay(0, 7, 3), FULL);
        due("two came", x.count(4), 160);
        due("no room at all", x.lay(0, 0, 1), FULL);
        due("n 0 wants none", x.lay(0, 0, 0), 160);
        due("text", x.text(0), 160);
        due("the last but one", x.printed(0, 0, 0, 158), 'h');
        due("the last", x.printed(0, 0, 0, 159), 'i');

        sentence("35: -12 and FULL: whichever byte comes first");
        x = Desk.letters(1);
        x.tray(0, 2);
        Desk.feed(x, "a".repeat(158));
        due("the row ends as the tape is full", x.lay(0, 0, 3), OUTSIDE);
        due("both came", x.count(4), 160);
        x.text(0);
        Desk.feed(x, "a".repeat(159));
        due("the tape ends ahead of the row", x.lay(0, 0, 3), FULL);
        due("one came", x.count(4), 160);
        due("outside of the row, the tape full", x.lay(0, 2, 1), OUTSIDE);
    }

    private static void taken() {
        sentence("36: BAD: k");
        bad("k", 0, 5, (x, v) -> x.taken(0, v));
        due("ahead of -11", desk().taken(4, 6), BAD);
        due("ahead of -11", desk().taken(-1, -1), BAD);

        sentence("36: -11: no such LETTER");
        range("letter", 0, LAST_LETTER, NOTHING, (x, v) -> x.taken(v, 0));

        sentence("36: -13; or one under that one (also by others between)");
        String[] under = {"100000", "110000", "101000", "100100", "100010", "101001"};
        for (int kind = 0; kind <= 5; kind++) {
            LetterDrawer x = Desk.with(2);
            x.letter(kind, 1, 0, 0);
            for (int k = 0; k <= 5; k++) {
                int want = under[kind].charAt(k) == '1' ? 1 : OTHER_SORT;
                due("KIND " + kind + " taken for " + k, x.taken(0, k), want);
            }
        }

        sentence("36: a FOUND one is still LOST by its KIND");
        due("for LOST", desk().taken(3, LOST), 0);
        due("for what it is FOUND to be", desk().taken(3, CARD), OTHER_SORT);
    }
}
