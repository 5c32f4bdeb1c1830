import java.util.function.IntBinaryOperator;

/** Each sentence of the Terms that names a boundary case, by a test of its own. */
public final class TermsTest {
    private static final int NONE = Desk.NONE, BAD = Desk.BAD, FULL = Desk.FULL;
    private static final int MIN = Desk.MIN, MAX = Desk.MAX;
    private static final int LETTER = Desk.LETTER, DRAFT = Desk.DRAFT, COPY = Desk.COPY, CARD = Desk.CARD, LOST = Desk.LOST,
        CIRCULAR = Desk.CIRCULAR;
    private static final Check check = new Check();

    public static void main(String[] args) {
        numbers();
        letters();
        bounds();
        spans();
        clashes();
        before();
        posts();
        reading();
        persons();
        names();
        hands();
        textSigns();
        numbersInTexts();
        faults();
        ownSort();
        fourOpen();
        notesToNowhere();
        silent();
        prints();
        words();
        differences();
        orders();
        trays();
        check.end();
    }

    private static void sentence(String text) {
        check.sentence(text);
    }

    private static void due(String call, long got, long want) {
        check.due(call, got, want);
    }

    private static void numbers() {
        sentence("PLACES 0 .. 5");
        LetterDrawer x = Desk.with(1);
        for (int place : new int[] {MIN, -1, 6, 7, MAX}) {
            due("person at " + place, x.person(1, place), BAD);
            due("letter at " + place, x.letter(0, 0, 0, place), BAD);
            due("post from " + place, x.post(place, 0, 1, 1), BAD);
            due("post to " + place, x.post(0, place, 1, 1), BAD);
        }
        for (int place = 0; place <= 5; place++) {
            due("person at " + place, x.person(1, place), 1 + place);
            due("letter at " + place, x.letter(0, 0, 0, place), place);
            due("post from " + place, x.post(place, 0, 1, 1), 1);
            due("post to " + place, x.post(0, place, 1, 1), 1);
        }

        sentence("PERSONS (10 at most) are numbered from 0 as they come");
        x = new LetterDrawer();
        for (int i = 0; i < 10; i++) {
            due("a refused one takes no number", x.person(0, 0), BAD);
            due("person", x.person(1, 0), i);
        }
        due("the 11th", x.person(1, 0), FULL);
        due("how many", x.count(0), 10);

        sentence("LETTERS (12) are numbered from 0 as they come");
        x = Desk.with(1);
        for (int i = 0; i < 12; i++) {
            due("a refused one takes no number", x.letter(0, 0, 0, 6), BAD);
            due("letter", x.letter(0, 0, 0, 0), i);
        }
        due("the 13th", x.letter(0, 0, 0, 0), FULL);
        due("how many", x.count(1), 12);

        sentence("DAYS are 0 .. 9999");
        for (int day : new int[] {MIN, -1, 10000, MAX}) {
            x = Desk.letters(1);
            due("lived first", x.lived(0, day, 9999), BAD);
            due("lived last", x.lived(0, 0, day), BAD);
            due("days least", x.days(0, day, day), BAD);
            due("days greatest", x.days(0, 0, day), BAD);
            due("read", x.read(0, 0, day, 0), BAD);
            due("reads", x.reads(0, day, 0), BAD);
            due("print", x.print(0, day, 0), BAD);
            due("printed", x.printed(0, day, 0, 0), BAD);
        }
        for (int day : new int[] {0, 9999}) {
            x = Desk.letters(1);
            due("lived", x.lived(0, day, day), 1);
            due("days", x.days(0, day, day), 1);
            due("read", x.read(0, 0, day, 0), 1);
            due("reads", x.reads(0, day, 0), 1);
            due("print", x.print(0, day, 0), 0);
            due("printed", x.printed(0, day, 0, 0), NONE);
        }

        sentence("NONE is -1, BAD -2, STATE -3, FULL -4");
        due("NONE", LetterDrawer.NONE, -1);
        due("BAD", LetterDrawer.BAD, -2);
        due("STATE", LetterDrawer.STATE, -3);
        due("FULL", LetterDrawer.FULL, -4);
    }

    private static void letters() {
        sentence("LETTERS have a KIND: 0 .. 5");
        LetterDrawer x = Desk.with(1);
        for (int kind : new int[] {MIN, -1, 6, MAX}) {
            due("letter", x.letter(kind, 0, 0, 0), BAD);
            due("none came", x.count(1), 0);
        }
        for (int kind = 0; kind <= 5; kind++) {
            due("letter", x.letter(kind, 0, 0, 0), kind);
            due("told", x.told(kind, 0), kind);
        }

        sentence("each is of one DAY, between a least and a greatest one (0, 9999 at first)");
        x = Desk.with(1, 0, 1, 2, 3, 4, 5);
        for (int i = 0; i < 6; i++) {
            due("least told", x.told(i, 4), 0);
            due("greatest told", x.told(i, 5), 9999);
            due("least", x.span(i, 0), 0);
            due("greatest", x.span(i, 1), 9999);
        }

        sentence("perhaps with a WEEKDAY");
        x = Desk.letters(1);
        due("none at first", x.told(0, 6), NONE);

        sentence("WEEKDAY (its DAY modulo 7)");
        x = Desk.letters(1);
        int[] last = {9996, 9997, 9998, 9999, 9993, 9994, 9995};
        for (int weekday = 0; weekday < 7; weekday++) {
            x.week(0, weekday);
            due("the first " + weekday, x.span(0, 0), weekday);
            due("the last " + weekday, x.span(0, 1), last[weekday]);
        }
        x.days(0, 6, 7);
        x.week(0, 6);
        due("6 alone", x.span(0, 1), 6);
        x.week(0, 0);
        due("7 alone", x.span(0, 0), 7);
        x.week(0, 1);
        due("neither", x.span(0, 0), NONE);

        sentence("A LOST one may be FOUND: it is then another LETTER (not LOST)");
        x = Desk.with(1, LOST, LOST, LETTER, DRAFT, COPY, CARD, CIRCULAR);
        due("itself", x.found(0, 0), BAD);
        due("another LOST one", x.found(0, 1), BAD);
        for (int other = 2; other < 7; other++) {
            due("not LOST at all", x.found(other, 2), BAD);
            due("of any other KIND", x.found(0, other), 1);
            due("lose", x.lose(0), 1);
        }

        sentence("both are of one DAY");
        x = Desk.with(1, LOST, LETTER);
        x.days(0, 10, 20);
        x.days(1, 20, 30);
        x.found(0, 1);
        due("just one in common", x.span(0, 0), 20);
        due("just one in common", x.span(1, 1), 20);
        x.days(1, 21, 30);
        due("none in common", x.span(0, 0), NONE);
        x.days(0, 25, 99);
        due("least by the LOST one", x.span(1, 0), 25);
        due("greatest by the other one", x.span(0, 1), 30);

        sentence("FOUND: the WEEKDAY of either is that of both");
        x = Desk.with(1, LOST, LETTER, LOST);
        x.found(0, 1);
        x.found(2, 1);
        x.days(1, 70, 76);
        x.week(0, 6);
        due("of the LOST one", x.span(1, 0), 76);
        due("of another LOST one", x.span(2, 0), 76);
        x.week(0, NONE);
        x.week(1, 0);
        due("of the LETTER", x.span(0, 1), 70);
        x.week(2, 0);
        due("of two", x.span(0, 1), 70);
        x.week(2, 1);
        due("two WEEKDAYS", x.span(0, 1), NONE);
    }

    private static void bounds() {
        sentence("BOUNDS (20 at most)");
        LetterDrawer x = Desk.letters(2);
        for (int i = 1; i <= 20; i++) {
            due("bound", x.bound(0, 1, 0), i);
        }
        due("the 21st", x.bound(0, 1, 0), FULL);
        due("loose", x.loose(), 19);
        due("room again", x.bound(0, 1, 7), 20);
        due("the 20th holds", x.span(1, 0), 7);

        sentence("d (-500 .. 500)");
        x = Desk.letters(2);
        for (int d : new int[] {MIN, -501, 501, MAX}) {
            due("d " + d, x.bound(0, 1, d), BAD);
        }
        due("-500", x.bound(0, 1, -500), 1);
        due("500", x.bound(0, 1, 500), 2);

        sentence("the DAY of b less that of a is d or above");
        x = Desk.letters(2);
        x.bound(0, 1, 5);
        x.days(0, 10, 10);
        x.days(1, 14, 14);
        due("4 is too little", x.span(0, 0), NONE);
        x.days(1, 15, 15);
        due("5 is d", x.span(1, 0), 15);
        x.days(1, 16, 16);
        due("6 is above", x.span(1, 0), 16);
        x.days(1, 9999, 9999);
        due("far above", x.span(1, 0), 9999);

        sentence("a BOUND with d below 0");
        x = Desk.letters(2);
        x.bound(0, 1, -3);
        x.days(0, 10, 10);
        x.days(1, 0, 6);
        due("-4 is too little", x.span(0, 0), NONE);
        x.days(1, 0, 7);
        due("-3 is d", x.span(1, 0), 7);

        sentence("a BOUND of a LOST one and the one that it is FOUND to be");
        x = Desk.with(1, LOST, LETTER);
        x.found(0, 1);
        x.bound(0, 1, 0);
        x.bound(1, 0, -500);
        due("0 holds", x.span(0, 1), 9999);
        x.bound(1, 0, 1);
        due("1 does not", x.clash(), 4);
    }

    private static void spans() {
        sentence("THE SPAN ends with the DAYS");
        LetterDrawer x = Desk.letters(2);
        x.days(0, 9499, 9999);
        x.bound(0, 1, 500);
        due("just 9999", x.span(1, 0), 9999);
        x.days(0, 9500, 9999);
        due("10000 is none", x.span(1, 0), NONE);

        sentence("THE SPAN begins with the DAYS");
        x = Desk.letters(2);
        x.bound(0, 1, -500);
        due("nothing below 0", x.span(1, 0), 0);
        x.days(1, 0, 0);
        due("500 at most", x.span(0, 1), 500);
        x.loose();
        x.bound(0, 1, 0);
        due("0 at most", x.span(0, 1), 0);

        sentence("the least and the greatest DAY that it has in any choice that keeps all");
        x = Desk.letters(3);
        x.days(0, 3, 50);
        x.days(2, 0, 40);
        x.bound(1, 2, 10);
        x.bound(0, 1, 10);
        x.week(1, 0);
        due("least", x.span(0, 0), 3);
        due("greatest", x.span(0, 1), 18);
        due("least", x.span(1, 0), 14);
        due("greatest", x.span(1, 1), 28);
        due("least", x.span(2, 0), 24);
        due("greatest", x.span(2, 1), 40);

        sentence("a long row of BOUNDS, told from its end on");
        x = Desk.letters(12);
        for (int i = 10; i >= 0; i--) {
            x.bound(i, i + 1, 500);
        }
        longRow(x);

        sentence("a long row of BOUNDS, told from its beginning on");
        x = Desk.letters(12);
        for (int i = 0; i < 11; i++) {
            x.bound(i, i + 1, 500);
        }
        longRow(x);
        manySteps();
    }

    private static void longRow(LetterDrawer x) {
        for (int i = 0; i < 12; i++) {
            due("least of " + i, x.span(i, 0), 500 * i);
            due("greatest of " + i, x.span(i, 1), 9999 - 500 * (11 - i));
        }
        x.days(11, 0, 5500);
        due("all pressed on one choice", x.span(0, 1), 0);
        x.days(11, 0, 5499);
        due("one too many", x.span(0, 1), NONE);
        due("all BOUNDS tell it", x.clash(), (1 << 11) - 1);
    }

    /**
     * Six LETTERS with WEEKDAYS, each of which moves a row of six others by just one DAY, if these stand a DAY behind
     * its own; with a seventh one none would ever come to rest.
     */
    private static void manySteps() {
        sentence("a choice that keeps all, found after many steps");
        LetterDrawer x = Desk.letters(12);
        for (int i = 5; i >= 0; i--) {
            x.week(i, (i + 6) % 7);
            x.bound(i, 6, -5);
            x.bound(11, i, 0);
        }
        for (int i = 10; i >= 6; i--) {
            x.bound(i, i + 1, 0);
        }
        for (int i = 6; i < 12; i++) {
            due("least of the row", x.span(i, 0), 6);
            due("greatest of the row", x.span(i, 1), 9988);
        }
        for (int i = 0; i < 6; i++) {
            due("least of WEEKDAY " + (i + 6) % 7, x.span(i, 0), 6 + i);
            due("greatest of WEEKDAY " + (i + 6) % 7, x.span(i, 1), 9988 + i);
        }
        due("no CLASH", x.clash(), NONE);

        sentence("a CLASH of a row that never comes to rest");
        x = Desk.letters(12);
        for (int i = 0; i < 7; i++) {
            x.week(i, i);
            x.bound(i, 7, -5);
            x.bound(11, i, 0);
        }
        for (int i = 7; i < 11; i++) {
            x.bound(i, i + 1, 0);
        }
        due("all BOUNDS tell it", x.clash(), (1 << 18) - 1);
        due("no SPAN", x.span(7, 0), NONE);
        x.week(3, NONE);
        due("one WEEKDAY less", x.clash(), NONE);
    }

    private static void clashes() {
        sentence("They CLASH, if there is no such choice");
        LetterDrawer x = new LetterDrawer();
        due("no LETTERS at all", x.clash(), NONE);
        x = Desk.letters(2);
        due("no BOUNDS", x.clash(), NONE);
        x.bound(0, 1, 1);
        x.bound(1, 0, -1);
        due("round by 0", x.clash(), NONE);
        x.bound(1, 0, 0);
        due("round by 1", x.clash(), 1 | 4);

        sentence("0: they CLASH without any BOUND");
        x = Desk.letters(2);
        x.days(0, 1, 6);
        x.week(0, 0);
        due("no DAY of that WEEKDAY", x.clash(), 0);
        x.bound(0, 1, 5);
        x.bound(1, 0, -4);
        due("with BOUNDS that CLASH too", x.clash(), 0);
        x.week(0, 1);
        due("by the BOUNDS only", x.clash(), 1 | 2);
        x = Desk.with(1, LOST, LETTER);
        x.days(0, 0, 4);
        x.days(1, 5, 9);
        due("not FOUND", x.clash(), NONE);
        x.found(0, 1);
        due("FOUND without a DAY in common", x.clash(), 0);
        x.days(0, 0, 9999);
        x.days(1, 0, 9999);
        x.week(0, 3);
        x.week(1, 3);
        due("one WEEKDAY", x.clash(), NONE);
        x.week(1, 4);
        due("two WEEKDAYS", x.clash(), 0);

        sentence("of the BOUNDS, from the last to the first, each is left out if they CLASH still");
        x = Desk.letters(3);
        x.bound(0, 1, 10);
        x.bound(1, 0, 10);
        x.bound(1, 2, 10);
        x.bound(2, 1, 10);
        due("the first two tell it", x.clash(), 1 | 2);

        sentence("without it (and those left out before)");
        x = Desk.letters(2);
        x.days(1, 0, 100);
        x.bound(0, 1, 101);
        x.bound(0, 1, 102);
        x.bound(0, 1, 103);
        due("one of three alike stays", x.clash(), 1);
        x = Desk.letters(2);
        x.bound(1, 0, 5);
        x.bound(0, 1, -5);
        x.bound(0, 1, -4);
        x.bound(0, 1, 3);
        due("one that does no harm goes", x.clash(), 1 | 4);

        sentence("bits up to the 20th BOUND");
        x = Desk.letters(2);
        for (int i = 0; i < 19; i++) {
            x.bound(0, 1, -500);
        }
        x.bound(0, 1, 500);
        x.days(0, 9500, 9999);
        due("the last alone", x.clash(), 1 << 19);
    }

    private static void before() {
        sentence("a is BEFORE b, if they do not CLASH");
        LetterDrawer x = Desk.letters(3);
        x.days(0, 0, 1);
        x.days(1, 2, 3);
        x.bound(0, 1, 1);
        due("no CLASH", x.before(0, 1), 1);
        x.days(2, 1, 5);
        x.week(2, 0);
        due("CLASH by another", x.before(0, 1), 0);

        sentence("the greatest DAY of THE SPAN of a is below the least one of b");
        x = Desk.letters(2);
        x.days(0, 0, 5);
        x.days(1, 5, 9);
        due("one DAY in common", x.before(0, 1), 0);
        x.days(1, 6, 9);
        due("below", x.before(0, 1), 1);
        due("not the other way", x.before(1, 0), 0);
        x.days(1, 4, 9);
        x.week(1, 6);
        due("of THE SPAN, not as told", x.before(0, 1), 1);

        sentence("BOUNDS lead from a to b whose d make more than 0 together");
        x = Desk.letters(3);
        x.bound(0, 1, 500);
        x.bound(1, 2, -500);
        due("0 together", x.before(0, 2), 0);
        x.loose();
        x.bound(1, 2, -499);
        due("1 together", x.before(0, 2), 1);
        due("not back", x.before(2, 0), 0);

        sentence("each from where the one ahead led to");
        x = Desk.letters(4);
        x.bound(0, 1, 5);
        x.bound(2, 3, 5);
        due("a gap", x.before(0, 3), 0);
        x.bound(1, 2, -9);
        due("no gap", x.before(0, 3), 1);
        due("the wrong way round", x.before(3, 0), 0);
        x = Desk.letters(12);
        x.bound(11, 0, 1);
        x.bound(0, 10, 0);
        due("by the first LETTER", x.before(11, 10), 1);
        x.bound(10, 11, -500);
        x.bound(7, 11, 0);
        due("to the first LETTER", x.before(7, 0), 1);
        x = Desk.letters(3);
        x.bound(0, 1, 0);
        x.bound(1, 2, 1);
        due("from the first LETTER", x.before(0, 2), 1);
        x = Desk.letters(12);
        for (int i = 10; i >= 0; i--) {
            x.bound(i, i + 1, i == 5 ? 1 : 0);
        }
        due("by all others", x.before(0, 11), 1);
        due("0 up to the sixth", x.before(0, 5), 0);

        sentence("of LETTERS that are one by FOUND any");
        x = Desk.with(1, LETTER, LOST, LETTER, LOST);
        x.bound(0, 1, 1);
        x.bound(3, 2, 0);
        due("not FOUND", x.before(0, 2), 0);
        x.letter(LETTER, 0, 0, 0);
        x.found(1, 4);
        due("one of two FOUND", x.before(0, 2), 0);
        due("the FOUND one", x.before(0, 4), 1);
        x.found(3, 4);
        due("two LOST ones that are the same LETTER", x.before(0, 2), 1);
        due("one LETTER is not BEFORE itself", x.before(1, 4), 0);
        due("one LETTER is not BEFORE itself", x.before(3, 1), 0);
        x.lose(1);
        due("lost again", x.before(0, 2), 0);
    }

    private static void posts() {
        sentence("1 and 30 at first; from a PLACE to itself 0 and 2");
        for (int from = 0; from < 6; from++) {
            for (int to = 0; to < 6; to++) {
                LetterDrawer x = new LetterDrawer();
                x.person(1, to);
                x.letter(LETTER, 0, 0, from);
                x.days(0, 100, 100);
                int least = from == to ? 100 : 101;
                int most = from == to ? 102 : 130;
                due("CAN from " + from + " to " + to, x.read(0, 0, least, 0), 1);
                due("CAN not yet from " + from + " to " + to, x.read(0, 0, least - 1, 0), 0);
                due("MUST from " + from + " to " + to, x.read(0, 0, most, 1), 1);
                due("MUST not yet from " + from + " to " + to, x.read(0, 0, most - 1, 1), 0);
            }
        }

        sentence("to the one at which its reader lives");
        LetterDrawer x = new LetterDrawer();
        x.person(1, 4);
        x.person(2, 3);
        x.letter(LETTER, 0, 1, 2);
        x.days(0, 50, 50);
        x.post(4, 3, 0, 0);
        x.post(3, 2, 0, 0);
        x.post(2, 4, 0, 0);
        due("not from where the writer lives, nor back", x.read(0, 1, 50, 0), 0);
        x.post(2, 3, 0, 0);
        due("from the LETTER's PLACE to the reader's", x.read(0, 1, 50, 1), 1);
    }

    private static void reading() {
        sentence("CAN, if the least DAY and the least of the POST are at most that together");
        LetterDrawer x = Desk.with(2, LETTER);
        x.days(0, 10, 90);
        x.post(0, 0, 7, 70);
        due("one too few", x.read(0, 1, 16, 0), 0);
        due("just that", x.read(0, 1, 17, 0), 1);
        due("more", x.read(0, 1, 9999, 0), 1);

        sentence("MUST, if the greatest ones are");
        due("one too few", x.read(0, 1, 159, 1), 0);
        due("just that", x.read(0, 1, 160, 1), 1);
        due("more", x.read(0, 1, 9999, 1), 1);

        sentence("a POST that ends behind the last DAY");
        x.days(0, 9990, 9999);
        due("CAN", x.read(0, 1, 9996, 0), 0);
        due("CAN", x.read(0, 1, 9997, 0), 1);
        due("MUST never", x.read(0, 1, 9999, 1), 0);

        sentence("A DRAFT never can");
        x = Desk.with(2, DRAFT);
        x.days(0, 0, 0);
        due("CAN", x.read(0, 1, 9999, 0), 0);
        due("MUST", x.read(0, 1, 9999, 1), 0);
        due("the writer", x.read(0, 0, 9999, 0), 0);
        due("of all LETTERS", x.reads(1, 9999, 0), 0);

        sentence("a CIRCULAR by all PERSONS but its writer");
        x = Desk.with(10, CIRCULAR);
        x.days(0, 5, 5);
        for (int person = 0; person < 10; person++) {
            due("CAN " + person, x.read(0, person, 5, 0), person == 0 ? 0 : 1);
            due("MUST " + person, x.read(0, person, 7, 1), person == 0 ? 0 : 1);
        }
        x = Desk.with(2);
        x.letter(CIRCULAR, 1, 1, 0);
        due("its writer, told as its reader", x.read(0, 1, 9999, 0), 0);
        due("another one, not told", x.read(0, 0, 9999, 0), 1);

        sentence("each by the POST to where that lives");
        x = new LetterDrawer();
        for (int place = 0; place < 6; place++) {
            x.person(1, place);
            x.post(3, place, 10 * place, 20 * place);
        }
        x.letter(CIRCULAR, 0, 1, 3);
        x.days(0, 100, 100);
        for (int person = 1; person < 6; person++) {
            due("CAN not yet " + person, x.read(0, person, 99 + 10 * person, 0), 0);
            due("CAN " + person, x.read(0, person, 100 + 10 * person, 0), 1);
            due("MUST not yet " + person, x.read(0, person, 99 + 20 * person, 1), 0);
            due("MUST " + person, x.read(0, person, 100 + 20 * person, 1), 1);
        }

        sentence("a LOST one as others");
        x = Desk.with(2, LOST, LETTER);
        x.days(0, 10, 20);
        due("CAN", x.read(0, 1, 10, 0), 1);
        due("MUST", x.read(0, 1, 22, 1), 1);
        x.days(1, 15, 15);
        x.found(0, 1);
        due("FOUND: by THE SPAN of both", x.read(0, 1, 14, 0), 0);
        due("FOUND: by THE SPAN of both", x.read(0, 1, 17, 1), 1);
        due("both are counted", x.reads(1, 15, 0), 2);

        sentence("a COPY, a CARD by its reader only");
        x = Desk.with(3, COPY, CARD);
        due("COPY", x.read(0, 2, 9999, 0), 1);
        due("CARD", x.read(1, 2, 9999, 0), 1);
        due("COPY, another one", x.read(0, 1, 9999, 0), 0);
        due("CARD, another one", x.read(1, 1, 9999, 0), 0);
    }

    private static void persons() {
        sentence("a NAME (a number 1 .. 99)");
        LetterDrawer x = Desk.letters(1);
        for (int name : new int[] {MIN, -1, 0, 100, 101, MAX}) {
            due("person", x.person(name, 0), BAD);
            due("means", x.means(0, name), BAD);
            due("who", x.who(0, name), BAD);
            due("hand", x.hand(0, name, 0), BAD);
        }
        due("person of 1", x.person(1, 0), 1);
        due("person of 99", x.person(99, 0), 2);
        due("means 99", x.means(0, 99), 0);
        due("who 99", x.who(0, 99), NONE);
        due("hand 99", x.hand(0, 99, 0), 1);
        due("hand 1", x.hand(0, 1, 0), 2);

        sentence("several may have one");
        x = new LetterDrawer();
        for (int i = 0; i < 10; i++) {
            x.person(42, 0);
        }
        x.letter(LETTER, 0, 0, 0);
        for (int i = 0; i < 10; i++) {
            due("means", x.means(0, 42), i);
            x.knows(0, i, true);
        }
        due("all ten", x.means(0, 42), 10);

        sentence("a first and a last DAY (0, 9999 at first)");
        x = Desk.with(2, LETTER);
        x.knows(0, 1, true);
        x.days(0, 0, 0);
        due("0", x.means(0, 2), 1);
        x.days(0, 9999, 9999);
        due("9999", x.means(0, 2), 1);

        sentence("KNOWN to others, as told (nobody at first)");
        x = Desk.with(2, LETTER);
        due("nobody", x.means(0, 2), 0);
        x.knows(1, 0, true);
        due("who knows the writer is not KNOWN to the writer", x.means(0, 2), 0);
        x.knows(0, 1, true);
        due("told", x.means(0, 2), 1);
        x.knows(0, 1, false);
        due("told otherwise", x.means(0, 2), 0);

        sentence("also to themselves only if told so");
        x = Desk.with(2, LETTER);
        due("not told", x.means(0, 1), 0);
        due("told", x.knows(0, 0, true), 1);
        due("KNOWN", x.means(0, 1), 1);
        due("that one", x.who(0, 1), 0);
    }

    private static void names() {
        sentence("whose DAYS have one in common with THE SPAN");
        LetterDrawer x = Desk.with(2, LETTER);
        x.knows(0, 1, true);
        x.days(0, 100, 200);
        int[][] rows = {{0, 99, 0}, {0, 100, 1}, {200, 9999, 1}, {201, 9999, 0}, {150, 150, 1}, {0, 9999, 1}, {100, 100, 1},
            {200, 200, 1}};
        for (int[] row : rows) {
            x.lived(1, row[0], row[1]);
            due(row[0] + " .. " + row[1], x.means(0, 2), row[2]);
        }
        x.week(0, 4);
        x.lived(1, 0, 101);
        due("THE SPAN begins with the WEEKDAY, 102", x.means(0, 2), 0);
        x.lived(1, 0, 102);
        due("102", x.means(0, 2), 1);
        x.lived(1, 201, 9999);
        due("THE SPAN ends with 200", x.means(0, 2), 0);

        sentence("DAYS of which the first is above the last are none");
        x = Desk.with(2, LETTER);
        x.knows(0, 1, true);
        due("taken", x.lived(1, 9999, 0), 1);
        due("none in common", x.means(0, 2), 0);
        due("taken", x.lived(1, 51, 50), 1);
        due("none in common", x.means(0, 2), 0);

        sentence("(if they CLASH: with 0 .. 9999)");
        x = Desk.with(3, LETTER, LETTER);
        x.knows(0, 1, true);
        x.knows(0, 2, true);
        x.lived(1, 0, 0);
        x.lived(2, 9999, 9999);
        x.days(0, 100, 200);
        due("no CLASH", x.means(0, 2), 0);
        x.days(1, 1, 1);
        x.week(1, 0);
        due("CLASH: DAY 0", x.means(0, 2), 1);
        due("CLASH: DAY 9999", x.means(0, 3), 1);

        sentence("It is SURE if it may mean just one");
        x = new LetterDrawer();
        x.person(7, 0);
        x.person(7, 0);
        x.letter(LETTER, 0, 0, 0);
        due("none", x.who(0, 7), NONE);
        x.knows(0, 1, true);
        due("one", x.who(0, 7), 1);
        x.knows(0, 0, true);
        due("two", x.who(0, 7), NONE);
    }

    private static void hands() {
        sentence("A HAND's word: 10 at most");
        LetterDrawer x = Desk.letters(12);
        for (int i = 0; i < 10; i++) {
            due("unlike LETTERS", x.hand(i, 50, 0), i + 1);
        }
        due("the 11th", x.hand(10, 50, 0), FULL);
        due("another NAME", x.hand(0, 51, 0), FULL);
        due("it did not come", x.means(10, 50), 0);

        sentence("of like ones the latest");
        x = Desk.with(3, LETTER, LETTER);
        x.hand(0, 50, 0);
        x.hand(1, 50, 0);
        x.hand(0, 51, 0);
        due("like one", x.hand(0, 50, 2), 3);
        due("the latest", x.who(0, 50), 2);
        due("another LETTER", x.who(1, 50), 0);
        due("another NAME", x.who(0, 51), 0);

        sentence("stands above all that");
        x = Desk.with(4, LETTER, LETTER);
        x.knows(0, 1, true);
        due("by itself", x.who(0, 2), 1);
        x.lived(3, 0, 0);
        x.days(0, 5, 5);
        x.hand(0, 2, 3);
        due("one of another NAME, not KNOWN, of other DAYS", x.who(0, 2), 3);
        due("just one", x.means(0, 2), 1);
        due("not in another LETTER", x.who(1, 2), 1);
        x.days(1, 1, 1);
        x.week(1, 0);
        due("also if they CLASH", x.who(0, 2), 3);
    }

    /** What the text and its fault are due: kind 0, or 1 or 2 with a place. */
    private static void text(String text, int kind, int place) {
        LetterDrawer x = Desk.letters(2);
        String shown = text.replaceAll("[^ -~]", "?");
        due("text " + shown, Desk.write(x, 0, text), kind == 0 ? text.length() : -20 - kind);
        due("kind of " + shown, x.fault(0), kind);
        due("place of " + shown, x.fault(1), kind == 0 ? NONE : place);
    }

    private static boolean isIn(int sign, String row) {
        return row.indexOf(sign) >= 0;
    }

    private static void textSigns() {
        String small = "abcdefghijklmnopqrstuvwxyz";
        sentence("TEXT: { letter a .. z, or blank (32), or point, or MARK }");
        for (int sign = 0; sign < 256; sign++) {
            if (sign != '{') {
                text("x" + (char) sign, isIn(sign, small + " .") ? 0 : 1, 1);
            }
        }

        sentence("a TEXT may have nothing in it");
        text("", 0, 0);
        text("{d}{a}{u}{h}{s0:}", 0, 0);

        sentence("MARK: {d, {a, {u, {h, {s, {n");
        for (int sign = 0; sign < 256; sign++) {
            text("{" + (char) sign, 1, isIn(sign, "dauhsn") ? 2 : 1);
        }

        sentence("within a MARK stands a TEXT");
        for (int sign = 0; sign < 256; sign++) {
            if (sign != '{' && sign != '}') {
                boolean stands = isIn(sign, small + " .");
                text("{d" + (char) sign + "}", stands ? 0 : 1, 2);
                text("{s5:" + (char) sign + "}", stands ? 0 : 1, 4);
            }
        }

        sentence("nothing else stands between: {dab} is ab, struck");
        text("{d:ab}", 1, 2);
        text("{d ab}", 0, 0);
        LetterDrawer x = Desk.letters(1);
        Desk.write(x, 0, "{dab}");
        check.holds("ab, struck", Desk.print(x, 0, 0, 1).equals("<ab>"));

        sentence("THE TAPE (160 bytes at most)");
        x = Desk.letters(1);
        Desk.feed(x, "{d" + "a".repeat(157));
        due("one left", x.feed(2, 0x7D7D), FULL);
        due("159", x.count(4), 159);
        due("160", x.feed(1, '}'), 160);
        due("161", x.feed(1, '}'), FULL);
        due("text", x.text(0), 160);
        due("told", x.told(0, 8), 160);
        due("printed", x.print(0, 0, 1), 159);
        due("plain", x.print(0, 0, 0), 0);
    }

    private static void numbersInTexts() {
        sentence("NUMBER: 1 .. 4 digits");
        text("{s:}", 1, 2);
        text("{n}", 1, 2);
        for (String number : new String[] {"0", "9", "00", "99", "000", "999", "0000", "9999"}) {
            text("{s" + number + ":}", 0, 0);
            text("{s" + number + "}", 1, 2 + number.length());
        }
        for (String number : new String[] {"0", "1", "01", "001", "0001", "0000"}) {
            text("{n" + number + "}", 0, 0);
            text("{n" + number + ":}", 1, 2 + number.length());
        }
        text("{s00000:}", 1, 6);
        text("{n00000}", 1, 6);

        sentence("NUMBER: digits");
        for (int sign = 0; sign < 256; sign++) {
            boolean digit = isIn(sign, "0123456789");
            text("{s" + (char) sign, 1, digit ? 3 : 2);
            text("{n" + (char) sign, 1, digit ? 3 : 2);
            text("{s1" + (char) sign, 1, digit || sign == ':' ? 4 : 3);
            if (sign != '}') {
                text("{n1" + (char) sign, 1, digit ? 4 : 3);
            }
        }
    }

    private static void faults() {
        sentence("the text's size, if it ends too early");
        String whole = "a{d{s12:{u{n1}b}}}";
        for (int size = 0; size < whole.length(); size++) {
            text(whole.substring(0, size), size <= 1 ? 0 : 1, size);
        }
        text(whole, 0, 0);
        text("{d" + "a".repeat(158), 1, 160);

        sentence("the place of the first byte that can't stand there");
        text("A!", 1, 0);
        text("aA!{", 1, 1);
        text("a".repeat(159) + "!", 1, 159);
        text("}", 1, 0);
        text("{d}}", 1, 3);
        text("{d{a}}}", 1, 6);
        text("{}", 1, 1);
        text("{{d}}", 1, 1);
        text("{n1}}", 1, 4);
    }

    private static void ownSort() {
        sentence("of a { that opens a MARK within one of its own sort (at the { )");
        String[] open = {"{d", "{a", "{u", "{h", "{s1:"};
        for (String one : open) {
            text(one + "x" + one + "}}", 1, one.length() + 1);
            text(one + one.substring(0, 2), 1, one.length());
            for (String other : open) {
                if (!other.equals(one)) {
                    text(one + other + one + "}}}", 1, one.length() + other.length());
                    text(one + other + "}" + other + "}}", 0, 0);
                }
            }
            text(one + "}" + one + "}", 0, 0);
            text(one + "{n1}{n1}}{n1}", 0, 0);
            text(one + "{", 1, one.length() + 1);
            text(one + "{x", 1, one.length() + 1);
        }
        text("{s1:{s2:}}", 1, 4);
        text("{d{a{u{d", 1, 6);
    }

    private static void fourOpen() {
        sentence("or while 4 are open (at the { )");
        String four = "{a{d{u{h";
        text(four + "}}}}", 0, 0);
        for (String fifth : new String[] {"{s1:}", "{n1}", "{a}", "{", "{x", "{{"}) {
            text(four + fifth + "}}}}", 1, 8);
        }
        text(four + "{", 1, 8);
        text(four + "x{n1}", 1, 9);
        text(four + "}{n1}{s1:}}}}", 0, 0);
        text("{s1:{a{u{d{h}}}}}", 1, 10);
        text("{a{d{u{n1}{n0}}}}", 0, 0);
    }

    private static void notesToNowhere() {
        sentence("Without such a one, kind 2");
        text("{n2}A", 1, 4);
        text("{n2}{d", 1, 6);
        text("{n2}", 2, 0);

        sentence("the { of the first note to a LETTER that is not there");
        text("a{n1}{d.{n2}}{n3}", 2, 8);
        text("{s9999:{n9999}}", 2, 7);
        text("{n0}{n1}{n0002}", 2, 8);
        IntBinaryOperator write = (letters, number) -> Desk.write(Desk.letters(letters), 0, "{n" + number + "}");
        due("to itself, the only one", write.applyAsInt(1, 0), 4);
        due("to the first that is not there", write.applyAsInt(1, 1), -22);
        due("to the last of 12", write.applyAsInt(12, 11), 5);
        due("to a 13th", write.applyAsInt(12, 12), -22);
    }

    private static void printsAs(LetterDrawer x, int day, String plain, String printed) {
        String gotPlain = Desk.print(x, 0, day, 0), gotPrinted = Desk.print(x, 0, day, 1);
        check.holds("PLAIN on " + day + ": " + gotPlain + ", due is " + plain, gotPlain.equals(plain));
        check.holds("PRINTED on " + day + ": " + gotPrinted + ", due is " + printed, gotPrinted.equals(printed));
    }

    private static void silent() {
        sentence("silent till a later DAY");
        LetterDrawer x = Desk.letters(1);
        Desk.write(x, 0, "x{s100:y}z");
        printsAs(x, 0, "xz", "x_z");
        printsAs(x, 99, "xz", "x_z");
        printsAs(x, 100, "xyz", "xyz");
        printsAs(x, 101, "xyz", "xyz");
        printsAs(x, 9999, "xyz", "xyz");

        sentence("silent till DAY 0");
        Desk.write(x, 0, "{s0:y}{s0000:z}");
        printsAs(x, 0, "yz", "yz");

        sentence("silent till DAY 9999");
        Desk.write(x, 0, "{s9999:y}");
        printsAs(x, 9998, "", "_");
        printsAs(x, 9999, "y", "y");

        sentence("those silent till a later DAY _ : all that is within them");
        Desk.write(x, 0, "{s10:a{d{n0}}{u}{hb}}c");
        printsAs(x, 9, "c", "_c");
        printsAs(x, 10, "abc", "a<(0)>[]'b'c");

        sentence("silent ones within others");
        Desk.write(x, 0, "{a{s7:{h}}}{d{s7:b}c}{u{s7:}}");
        printsAs(x, 6, "", "/_/<_c>[_]");
        printsAs(x, 7, "", "/''/<bc>[]");

        sentence("silent ones with nothing in them");
        Desk.write(x, 0, "{s7:}");
        printsAs(x, 6, "", "_");
        printsAs(x, 7, "", "");
    }

    private static void prints() {
        sentence("letters, blanks, points as they stand");
        LetterDrawer x = Desk.letters(12);
        Desk.write(x, 0, "a  ..z ");
        printsAs(x, 0, "a  ..z ", "a  ..z ");

        sentence("of struck MARKS and notes nothing; struck < TEXT >");
        Desk.write(x, 0, "a{db{uc}{n1}d}{n2}e");
        printsAs(x, 0, "ae", "a<b[c](1)d>(2)e");

        sentence("of others their TEXTS; added / TEXT /, doubtful [ TEXT ], another hand ' TEXT '");
        Desk.write(x, 0, "{aa}{ub}{hc}{ad{ue{hf}}}");
        printsAs(x, 0, "abcdef", "/a/[b]'c'/d[e'f']/");

        sentence("MARKS with nothing in them");
        Desk.write(x, 0, "{d}{a}{u}{h}");
        printsAs(x, 0, "", "<>//[]''");

        sentence("notes ( NUMBER ) without 0 ahead");
        Desk.write(x, 0, "{n0}{n00}{n000}{n0000}{n7}{n07}{n007}{n0007}{n10}{n010}{n0010}{n11}");
        printsAs(x, 0, "", "(0)(0)(0)(0)(7)(7)(7)(7)(10)(10)(10)(11)");

        sentence("a LETTER without TEXT has nothing");
        check.holds("plain", Desk.print(x, 1, 9999, 0).isEmpty());
        check.holds("printed", Desk.print(x, 1, 9999, 1).isEmpty());
    }

    private static void wordsOf(String text, int want) {
        LetterDrawer x = Desk.letters(1);
        Desk.write(x, 0, text);
        due("words of " + text, x.words(0), want);
    }

    private static void words() {
        sentence("WORDS: the greatest rows of letters");
        wordsOf("", 0);
        wordsOf(" .. ", 0);
        wordsOf("abc", 1);
        wordsOf("a.b", 2);
        wordsOf(".a b.", 2);
        wordsOf("a{d}b", 1);
        wordsOf("a{d b }c{n0}d", 1);
        wordsOf("a{u }b", 2);
        wordsOf("{aa}{hb}", 1);
        wordsOf("a ".repeat(80), 80);
        wordsOf(".a".repeat(80), 80);
        wordsOf("z".repeat(160), 1);

        sentence("WORDS: of its TEXT, PLAIN on DAY 9999");
        wordsOf("{s9999:a} {s0:b}", 2);
        wordsOf("a{s9999: }b", 2);
        wordsOf("{da b c}", 0);
    }

    private static void differBy(String a, String b, int want) {
        LetterDrawer x = Desk.letters(2);
        Desk.write(x, 0, a);
        Desk.write(x, 1, b);
        due("from '" + a + "' to '" + b + "'", x.differ(0, 1), want);
        due("from '" + b + "' to '" + a + "'", x.differ(1, 0), want);
    }

    private static void differences() {
        sentence("the least number of words that are put in, taken out, or put in place of another one");
        differBy("a b c", "a b c", 0);
        differBy("", "", 0);
        differBy("", "a", 1);
        differBy("", "a ".repeat(80), 80);
        differBy("a ".repeat(80), "b ".repeat(80), 80);
        differBy("a b", "a x", 1);
        differBy("a b c d", "b c d a", 2);
        differBy("a b", "b a", 2);
        differBy("a b c", "x a y b z c", 3);
        differBy("a b c d e f", "a c e", 3);
        differBy("ab", "a", 1);
        differBy("ab", "ba", 1);
        differBy("ab cd", "abcd", 2);
        differBy("ab cd", "ab ce", 1);
        differBy("bab", "cab", 1);

        sentence("blanks, points and MARKS make no difference");
        differBy("a b", " a..b.", 0);
        differBy("ab.cd", "ab cd.", 0);
        differBy("a b", "{a{ha}}.{ub}{n0}{dc}", 0);
        differBy("a b", "{s9999:a b}", 0);
        differBy(".", "", 0);
    }

    private static void orderIs(LetterDrawer x, int set, int jumps, int... row) {
        due("jumps of " + set, x.jumps(set), jumps);
        for (int i = 0; i < row.length; i++) {
            due("order of " + set + " at " + i, x.order(set, i), row[i]);
        }
        due("order of " + set + " behind", x.order(set, row.length), NONE);
    }

    private static void orders() {
        sentence("THE ORDER of a set of LETTERS (8 at most)");
        LetterDrawer x = Desk.letters(12);
        for (int i = 0; i < 12; i++) {
            x.days(i, 10 * i, 9999);
        }
        orderIs(x, 0xFF, 70, 0, 1, 2, 3, 4, 5, 6, 7);
        orderIs(x, 0xFF0, 70, 4, 5, 6, 7, 8, 9, 10, 11);
        due("nine", x.jumps(0x1FF), BAD);
        due("nine", x.order(0x1FF, 0), BAD);
        due("all", x.jumps(0xFFF), BAD);

        sentence("an empty set, a set of one");
        orderIs(x, 0, 0);
        orderIs(x, 1, 0, 0);
        orderIs(x, 1 << 11, 0, 11);

        sentence("none stands behind one that it is BEFORE");
        x = Desk.letters(3);
        x.days(0, 30, 9999);
        x.days(1, 20, 9999);
        x.days(2, 10, 9999);
        orderIs(x, 7, 20, 0, 1, 2);
        x.bound(1, 0, 1);
        orderIs(x, 7, 20, 2, 1, 0);
        x.loose();
        x.bound(1, 0, 0);
        orderIs(x, 7, 20, 0, 1, 2);
        x.loose();
        x.days(2, 10, 29);
        orderIs(x, 7, 20, 2, 1, 0);
        x.days(2, 10, 30);
        orderIs(x, 7, 20, 0, 1, 2);

        sentence("the sizes of (the least DAY of the latter less that of the former)");
        x = Desk.letters(2);
        x.days(0, 9999, 9999);
        x.days(1, 0, 9999);
        orderIs(x, 3, 9999, 0, 1);
        x.days(1, 9999, 9999);
        orderIs(x, 3, 0, 0, 1);
        x.days(0, 51, 9999);
        x.days(1, 50, 50);
        orderIs(x, 3, 1, 1, 0);

        sentence("of like ones the one with the lesser LETTER at the first place");
        x = Desk.letters(4);
        x.days(0, 50, 9999);
        x.days(1, 10, 9999);
        x.days(2, 50, 9999);
        x.days(3, 10, 9999);
        orderIs(x, 0b1111, 40, 0, 2, 1, 3);
        orderIs(x, 0b1110, 40, 1, 3, 2);
        x.days(0, 10, 9999);
        x.days(2, 10, 9999);
        orderIs(x, 0b1111, 0, 0, 1, 2, 3);

        sentence("If they CLASH there is none");
        x = Desk.letters(3);
        x.days(2, 1, 6);
        x.week(2, 0);
        due("jumps", x.jumps(3), NONE);
        due("order", x.order(3, 0), NONE);
        due("of the empty set", x.jumps(0), NONE);
    }

    private static void trays() {
        sentence("TRAYS 0 .. 3");
        LetterDrawer x = new LetterDrawer();
        for (int tray : new int[] {MIN, -1, 4, MAX}) {
            due("tray", x.tray(tray, 1), BAD);
            due("cell", x.cell(tray, 0, 0), BAD);
            due("lay", x.lay(tray, 0, 0), BAD);
        }
        for (int tray = 0; tray < 4; tray++) {
            due("tray", x.tray(tray, 1), 1);
            due("cell", x.cell(tray, 0, 0), 1);
            due("lay", x.lay(tray, 0, 1), tray + 1);
        }

        sentence("or missing (as all are at first)");
        x = new LetterDrawer();
        for (int tray = 0; tray < 4; tray++) {
            due("cell", x.cell(tray, 0, 0), Desk.NOTHING);
            due("lay", x.lay(tray, 0, 0), Desk.NOTHING);
        }
    }
}
