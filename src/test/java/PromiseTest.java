/** Each promise by hand: ordinary inputs, the edges that the document names, wrong inputs. */
public final class PromiseTest {
    private static final int NONE = -1, BAD = -2, STATE = -3, FULL = -4;
    private static final int MIN = Integer.MIN_VALUE, MAX = Integer.MAX_VALUE;
    private static final Check check = new Check();

    public static void main(String[] args) {
        newObject();
        person();
        lived();
        knows();
        letter();
        told();
        days();
        week();
        bound();
        loose();
        found();
        lose();
        span();
        clash();
        before();
        beforeByBounds();
        post();
        read();
        readByKind();
        reads();
        means();
        who();
        hand();
        feed();
        text();
        fault();
        print();
        printed();
        words();
        differ();
        note();
        jumps();
        order();
        count();
        tray();
        cell();
        lay();
        taken();
        check.end();
    }

    private static void due(String call, long got, long want) {
        check.due(call, got, want);
    }

    /** A drawer with PERSONS 0 .. persons-1 (NAME 1 + number, PLACE 0) and LETTERS of a KIND from 0 to 0. */
    private static LetterDrawer drawer(int persons, int letters, int kind) {
        LetterDrawer x = new LetterDrawer();
        for (int i = 0; i < persons; i++) {
            x.person(1 + i, 0);
        }
        for (int i = 0; i < letters; i++) {
            x.letter(kind, 0, 0, 0);
        }
        return x;
    }

    private static int feedAll(LetterDrawer x, String text) {
        int size = x.count(4);
        for (int i = 0; i < text.length(); i++) {
            size = x.feed(1, text.charAt(i));
        }
        return size;
    }

    private static int write(LetterDrawer x, int letter, String text) {
        feedAll(x, text);
        return x.text(letter);
    }

    private static void printDue(LetterDrawer x, int letter, int day, int way, String want) {
        String call = "print of " + letter + " on " + day + " way " + way;
        due(call, x.print(letter, day, way), want.length());
        for (int i = 0; i < want.length(); i++) {
            due(call + " byte " + i, x.printed(letter, day, way, i), want.charAt(i));
        }
        due(call + " behind", x.printed(letter, day, way, want.length()), NONE);
    }

    private static void textFault(String text, int kind, int place) {
        LetterDrawer x = drawer(1, 2, 0);
        feedAll(x, text);
        due("text of " + text, x.text(0), kind == 0 ? text.length() : -20 - kind);
        due("fault kind of " + text, x.fault(0), kind);
        due("fault place of " + text, x.fault(1), place);
        due("tape behind " + text, x.count(4), 0);
        due("bytes of " + text, x.told(0, 8), kind == 0 ? text.length() : 0);
    }

    private static void newObject() {
        LetterDrawer x = new LetterDrawer();
        for (int what = 0; what <= 5; what++) {
            due("count " + what, x.count(what), 0);
        }
        due("clash", x.clash(), NONE);
        due("loose", x.loose(), STATE);
        due("fault 0", x.fault(0), 0);
        due("fault 1", x.fault(1), NONE);
        due("told", x.told(0, 0), BAD);
        due("text", x.text(0), BAD);
        due("jumps 0", x.jumps(0), 0);
        due("jumps 1", x.jumps(1), BAD);
        due("order 0", x.order(0, 0), NONE);
        for (int tray = 0; tray < 4; tray++) {
            due("cell", x.cell(tray, 0, 0), -11);
        }
        LetterDrawer y = new LetterDrawer();
        y.person(1, 1);
        due("another object", x.count(0), 0);
    }

    private static void person() {
        LetterDrawer x = new LetterDrawer();
        due("name 0", x.person(0, 0), BAD);
        due("name 100", x.person(100, 0), BAD);
        due("name -1", x.person(-1, 0), BAD);
        due("place -1", x.person(1, -1), BAD);
        due("place 6", x.person(1, 6), BAD);
        due("none came", x.count(0), 0);
        due("first", x.person(1, 0), 0);
        due("name 99, place 5", x.person(99, 5), 1);
        due("same name", x.person(99, 5), 2);
        for (int i = 3; i < 10; i++) {
            due("person", x.person(7, 3), i);
        }
        due("eleventh", x.person(7, 3), FULL);
        due("BAD ahead of FULL", x.person(0, 3), BAD);
        due("ten", x.count(0), 10);
    }

    private static void lived() {
        LetterDrawer x = drawer(2, 1, 0);
        x.knows(0, 1, true);
        x.days(0, 100, 200);
        due("at first", x.means(0, 2), 1);
        due("lived", x.lived(1, 0, 99), 1);
        due("dead ahead", x.means(0, 2), 0);
        due("lived", x.lived(1, 0, 100), 1);
        due("one DAY in common", x.means(0, 2), 1);
        due("lived", x.lived(1, 201, 9999), 1);
        due("born behind", x.means(0, 2), 0);
        due("lived", x.lived(1, 200, 9999), 1);
        due("one DAY in common at the end", x.means(0, 2), 1);
        due("first above last", x.lived(1, 150, 149), 1);
        due("no DAY at all", x.means(0, 2), 0);
        due("one day", x.lived(1, 150, 150), 1);
        due("within", x.means(0, 2), 1);
        due("person -1", x.lived(-1, 0, 1), BAD);
        due("person 2", x.lived(2, 0, 1), BAD);
        due("first -1", x.lived(1, -1, 1), BAD);
        due("first 10000", x.lived(1, 10000, 10000), BAD);
        due("last -1", x.lived(1, 0, -1), BAD);
        due("last 10000", x.lived(1, 0, 10000), BAD);
        due("a refusal changes nothing", x.means(0, 2), 1);
        due("all days", x.lived(0, 0, 9999), 1);
        LetterDrawer y = drawer(2, 1, 0);
        y.knows(0, 1, true);
        y.days(0, 0, 0);
        due("0 at first", y.means(0, 2), 1);
        y.days(0, 9999, 9999);
        due("9999 at first", y.means(0, 2), 1);
    }

    private static void knows() {
        LetterDrawer x = drawer(2, 1, 0);
        due("not known: no change", x.knows(0, 1, false), 0);
        due("known now", x.knows(0, 1, true), 1);
        due("known already", x.knows(0, 1, true), 0);
        due("by name", x.means(0, 2), 1);
        due("not the other way round", x.knows(1, 0, false), 0);
        due("not any more", x.knows(0, 1, false), 1);
        due("by name", x.means(0, 2), 0);
        due("not to himself", x.means(0, 1), 0);
        due("to himself", x.knows(0, 0, true), 1);
        due("to himself by name", x.means(0, 1), 1);
        due("a -1", x.knows(-1, 0, true), BAD);
        due("a 2", x.knows(2, 0, true), BAD);
        due("b -1", x.knows(0, -1, true), BAD);
        due("b 2", x.knows(0, 2, true), BAD);
        x.person(3, 0);
        due("a refused one came new", x.knows(0, 2, false), 0);
    }

    private static void letter() {
        LetterDrawer x = drawer(2, 0, 0);
        due("kind -1", x.letter(-1, 0, 0, 0), BAD);
        due("kind 6", x.letter(6, 0, 0, 0), BAD);
        due("from -1", x.letter(0, -1, 0, 0), BAD);
        due("from 2", x.letter(0, 2, 0, 0), BAD);
        due("to -1", x.letter(0, 0, -1, 0), BAD);
        due("to 2", x.letter(0, 0, 2, 0), BAD);
        due("place -1", x.letter(0, 0, 0, -1), BAD);
        due("place 6", x.letter(0, 0, 0, 6), BAD);
        for (int i = 0; i < 12; i++) {
            due("letter", x.letter(i % 6, 0, 1, 5), i);
        }
        due("thirteenth", x.letter(0, 0, 1, 5), FULL);
        due("BAD ahead of FULL", x.letter(6, 0, 1, 5), BAD);
        due("twelve", x.count(1), 12);
        due("without TEXT", x.told(11, 8), 0);
        due("without TEXT", x.print(11, 0, 1), 0);
    }

    private static void told() {
        LetterDrawer x = drawer(3, 1, 0);
        x.letter(4, 2, 1, 5);
        int[] first = {4, 2, 1, 5, 0, 9999, NONE, NONE, 0};
        for (int what = 0; what < first.length; what++) {
            due("told at first " + what, x.told(1, what), first[what]);
        }
        x.days(1, 7, 70);
        x.week(1, 6);
        x.found(1, 0);
        x.days(0, 20, 30);
        write(x, 1, "ab.");
        int[] later = {4, 2, 1, 5, 7, 70, 6, 0, 3};
        for (int what = 0; what < later.length; what++) {
            due("told later " + what, x.told(1, what), later[what]);
        }
        due("the other one is not FOUND to be one", x.told(0, 7), NONE);
        due("what -1", x.told(1, -1), BAD);
        due("what 9", x.told(1, 9), BAD);
        due("letter -1", x.told(-1, 0), BAD);
        due("letter 2", x.told(2, 0), BAD);
    }

    private static void days() {
        LetterDrawer x = drawer(1, 1, 0);
        due("days", x.days(0, 3, 8), 1);
        due("least", x.told(0, 4), 3);
        due("greatest", x.told(0, 5), 8);
        due("least above greatest", x.days(0, 5, 4), BAD);
        due("least -1", x.days(0, -1, 4), BAD);
        due("least 10000", x.days(0, 10000, 10000), BAD);
        due("greatest 10000", x.days(0, 0, 10000), BAD);
        due("letter -1", x.days(-1, 0, 4), BAD);
        due("letter 1", x.days(1, 0, 4), BAD);
        due("kept", x.told(0, 4), 3);
        due("kept", x.told(0, 5), 8);
        due("one day", x.days(0, 4, 4), 1);
        due("span", x.span(0, 1), 4);
        due("wider again", x.days(0, 0, 9999), 1);
        due("span", x.span(0, 1), 9999);
    }

    private static void week() {
        LetterDrawer x = drawer(1, 1, 0);
        x.days(0, 7, 20);
        due("none", x.week(0, NONE), 1);
        for (int day = 0; day < 7; day++) {
            due("weekday", x.week(0, day), 1);
            due("told", x.told(0, 6), day);
            due("least", x.span(0, 0), 7 + day);
            due("greatest", x.span(0, 1), 14 + day);
        }
        due("weekday 7", x.week(0, 7), BAD);
        due("weekday -2", x.week(0, -2), BAD);
        due("letter -1", x.week(-1, 0), BAD);
        due("letter 1", x.week(1, 0), BAD);
        due("kept", x.told(0, 6), 6);
        x.days(0, 7, 12);
        due("no such DAY", x.span(0, 0), NONE);
        due("none again", x.week(0, NONE), 1);
        due("least", x.span(0, 0), 7);
    }

    private static void bound() {
        LetterDrawer x = drawer(1, 3, 0);
        due("a = b", x.bound(1, 1, 0), BAD);
        due("a -1", x.bound(-1, 1, 0), BAD);
        due("a 3", x.bound(3, 1, 0), BAD);
        due("b -1", x.bound(1, -1, 0), BAD);
        due("b 3", x.bound(1, 3, 0), BAD);
        due("d -501", x.bound(0, 1, -501), BAD);
        due("d 501", x.bound(0, 1, 501), BAD);
        due("d MIN", x.bound(0, 1, MIN), BAD);
        due("none came", x.count(2), 0);
        due("d 500", x.bound(0, 1, 500), 1);
        due("least by it", x.span(1, 0), 500);
        due("greatest by it", x.span(0, 1), 9499);
        due("d -500", x.bound(1, 2, -500), 2);
        x.days(2, 0, 100);
        due("greatest by d below 0", x.span(1, 1), 600);
        due("greatest by both", x.span(0, 1), 100);
        for (int i = 3; i <= 20; i++) {
            due("bound", x.bound(0, 2, -1), i);
        }
        due("21st", x.bound(0, 1, 0), FULL);
        due("BAD ahead of FULL", x.bound(0, 0, 0), BAD);
        due("all", x.count(2), 20);
    }

    private static void loose() {
        LetterDrawer x = drawer(1, 2, 0);
        due("none", x.loose(), STATE);
        x.bound(0, 1, 10);
        x.bound(0, 1, 20);
        due("least", x.span(1, 0), 20);
        due("the last goes", x.loose(), 1);
        due("least", x.span(1, 0), 10);
        due("the first goes", x.loose(), 0);
        due("least", x.span(1, 0), 0);
        due("none again", x.loose(), STATE);
        due("anew", x.bound(1, 0, 3), 1);
        due("least", x.span(0, 0), 3);
    }

    private static void found() {
        LetterDrawer x = new LetterDrawer();
        x.person(1, 0);
        for (int kind : new int[] {4, 4, 0, 3}) {
            x.letter(kind, 0, 0, 0);
        }
        due("not LOST", x.found(2, 3), BAD);
        due("the other one LOST", x.found(0, 1), BAD);
        due("itself", x.found(0, 0), BAD);
        due("lost -1", x.found(-1, 2), BAD);
        due("lost 4", x.found(4, 2), BAD);
        due("letter -1", x.found(0, -1), BAD);
        due("letter 4", x.found(0, 4), BAD);
        x.days(0, 10, 50);
        x.days(1, 30, 90);
        x.days(2, 20, 70);
        due("found", x.found(0, 2), 1);
        due("both of one DAY, least", x.span(2, 0), 20);
        due("both of one DAY, greatest", x.span(2, 1), 50);
        due("the lost one, least", x.span(0, 0), 20);
        due("FOUND already", x.found(0, 3), STATE);
        due("BAD ahead of STATE", x.found(0, 1), BAD);
        due("kept", x.told(0, 7), 2);
        due("another lost one of the same", x.found(1, 2), 1);
        due("three of one DAY, least", x.span(0, 0), 30);
        due("three of one DAY, greatest", x.span(1, 1), 50);
        x.week(1, 1);
        due("the WEEKDAY of one is that of all", x.span(2, 0), 36);
        x.week(1, NONE);
        x.week(2, 1);
        due("that of the found one too", x.span(0, 0), 36);
        x.week(0, 1);
        due("twice the same", x.span(1, 0), 36);
        x.week(0, 2);
        due("two WEEKDAYS", x.span(2, 0), NONE);
    }

    private static void lose() {
        LetterDrawer x = drawer(1, 1, 4);
        x.letter(0, 0, 0, 0);
        due("not FOUND", x.lose(0), STATE);
        due("not LOST", x.lose(1), STATE);
        due("letter -1", x.lose(-1), BAD);
        due("letter 2", x.lose(2), BAD);
        x.days(0, 10, 20);
        x.found(0, 1);
        due("the other one is not FOUND", x.lose(1), STATE);
        due("one", x.span(1, 0), 10);
        due("lose", x.lose(0), 1);
        due("two", x.span(1, 0), 0);
        due("told", x.told(0, 7), NONE);
        due("again", x.lose(0), STATE);
        due("found again", x.found(0, 1), 1);
    }

    private static void span() {
        LetterDrawer x = drawer(1, 4, 0);
        due("at first", x.span(0, 0), 0);
        due("at first", x.span(0, 1), 9999);
        due("what -1", x.span(0, -1), BAD);
        due("what 2", x.span(0, 2), BAD);
        due("letter -1", x.span(-1, 0), BAD);
        due("letter 4", x.span(4, 0), BAD);
        // By the WEEKDAYS 1 is 9 DAYS behind 0, not 3.
        x.week(0, 1);
        x.week(1, 3);
        x.bound(0, 1, 3);
        x.bound(1, 2, 0);
        due("by a WEEKDAY", x.span(1, 0), 10);
        due("behind it", x.span(2, 0), 10);
        x.bound(2, 0, -8);
        due("back by one DAY too many", x.span(0, 0), NONE);
        x.loose();
        x.bound(2, 0, -9);
        due("back by 9", x.span(0, 0), 1);
        due("greatest", x.span(0, 1), 9990);
        due("greatest", x.span(1, 1), 9999);
        due("greatest", x.span(2, 1), 9999);
        x.days(2, 0, 9);
        due("CLASH", x.span(0, 0), NONE);
        due("CLASH of others is one of all", x.span(3, 0), NONE);
        due("BAD ahead of NONE", x.span(4, 0), BAD);
        due("BAD ahead of NONE", x.span(0, 2), BAD);
        x.days(2, 0, 10);
        due("no CLASH", x.span(3, 1), 9999);
        due("up against the end", x.span(0, 1), 1);
        due("up against the end", x.span(1, 1), 10);
        due("up against the end", x.span(2, 0), 10);
        longWayRound();
    }

    /** A free LETTER between ones with WEEKDAYS is moved more than once, and still comes to rest. */
    private static void longWayRound() {
        LetterDrawer x = drawer(1, 3, 0);
        x.week(1, 0);
        x.week(2, 3);
        x.days(0, 1, 9999);
        x.bound(0, 1, 0);
        x.bound(1, 0, 0);
        x.bound(0, 2, 0);
        x.bound(2, 0, -3);
        due("all come to rest", x.span(0, 0), 7);
        due("with the first", x.span(1, 0), 7);
        due("with the second", x.span(2, 0), 10);
        x.loose();
        x.bound(2, 0, -2);
        due("none comes to rest", x.span(0, 0), NONE);
        due("by these", x.clash(), 1 | 2 | 4 | 8);
    }

    private static void clash() {
        LetterDrawer x = drawer(1, 3, 0);
        due("no BOUND", x.clash(), NONE);
        x.bound(0, 1, 1);
        x.bound(1, 2, 1);
        due("no clash", x.clash(), NONE);
        x.bound(2, 0, -2);
        due("just not", x.clash(), NONE);
        x.bound(2, 0, -1);
        due("round by 1", x.clash(), 1 | 2 | 8);
        x.bound(1, 0, 0);
        due("the last ones go first", x.clash(), 1 | 2 | 8);
        x.loose();
        x.loose();
        x.bound(1, 0, 0);
        x.bound(0, 1, 2);
        due("of like ones the first", x.clash(), 1 | 8);
        x.days(1, 0, 0);
        due("by a greatest DAY", x.clash(), 1);
        x.days(0, 5, 5);
        x.days(1, 7, 7);
        x.days(2, 7, 7);
        due("two DAYS that do not go", x.clash(), 2);
        x.week(0, 4);
        due("without any BOUND", x.clash(), 0);
        x.week(0, 5);
        due("the right WEEKDAY", x.clash(), 2);
        LetterDrawer y = drawer(1, 2, 0);
        for (int i = 0; i < 20; i++) {
            y.bound(i % 2, 1 - i % 2, i < 18 ? 0 : 1);
        }
        due("of twenty", y.clash(), 1 << 1 | 1 << 18);
    }

    private static void before() {
        LetterDrawer x = drawer(1, 3, 0);
        due("a = b", x.before(1, 1), BAD);
        due("a -1", x.before(-1, 1), BAD);
        due("a 3", x.before(3, 1), BAD);
        due("b -1", x.before(1, -1), BAD);
        due("b 3", x.before(1, 3), BAD);
        due("all days", x.before(0, 1), 0);
        x.days(0, 10, 20);
        x.days(1, 20, 30);
        due("one DAY in common", x.before(0, 1), 0);
        x.days(1, 21, 30);
        due("the DAYS tell", x.before(0, 1), 1);
        due("not the other way", x.before(1, 0), 0);
        x.week(0, 1);
        x.days(1, 16, 30);
        due("by THE SPAN, not as told", x.before(0, 1), 1);
        x.days(2, 100, 100);
        x.bound(2, 0, 0);
        due("CLASH", x.before(0, 1), 0);
        due("BAD also then", x.before(0, 0), BAD);
    }

    private static void beforeByBounds() {
        LetterDrawer x = drawer(1, 5, 0);
        x.letter(4, 0, 0, 0);
        x.bound(0, 1, 0);
        due("0 is not more than 0", x.before(0, 1), 0);
        x.bound(1, 2, 1);
        due("together 1", x.before(0, 2), 1);
        due("alone 1", x.before(1, 2), 1);
        due("not back", x.before(2, 0), 0);
        x.bound(2, 3, -1);
        due("together 0", x.before(0, 3), 0);
        x.bound(5, 3, 5);
        due("no way yet", x.before(0, 3), 0);
        x.bound(3, 4, 1);
        due("together 1 again", x.before(0, 4), 1);
        x.bound(1, 5, -4);
        due("by a lost one", x.before(0, 3), 1);
        x.found(5, 0);
        due("from one to one", x.before(0, 5), 0);
        due("of LETTERS that are one any", x.before(5, 2), 1);
        due("from the found one", x.before(0, 3), 1);
        LetterDrawer y = drawer(1, 3, 0);
        y.bound(2, 0, 5);
        y.bound(0, 1, -4);
        due("to the first LETTER", y.before(2, 0), 1);
        due("by the first LETTER", y.before(2, 1), 1);
        due("from the first LETTER", y.before(0, 1), 0);
    }

    private static void post() {
        LetterDrawer x = new LetterDrawer();
        x.person(1, 1);
        x.letter(0, 0, 0, 0);
        x.letter(0, 0, 0, 1);
        x.days(0, 100, 200);
        x.days(1, 100, 200);
        due("1 at first", x.read(0, 0, 101, 0), 1);
        due("1 at first", x.read(0, 0, 100, 0), 0);
        due("30 at first", x.read(0, 0, 230, 1), 1);
        due("30 at first", x.read(0, 0, 229, 1), 0);
        due("0 to itself", x.read(1, 0, 100, 0), 1);
        due("0 to itself", x.read(1, 0, 99, 0), 0);
        due("2 to itself", x.read(1, 0, 202, 1), 1);
        due("2 to itself", x.read(1, 0, 201, 1), 0);
        due("post", x.post(0, 1, 3, 5), 1);
        due("3", x.read(0, 0, 103, 0), 1);
        due("3", x.read(0, 0, 102, 0), 0);
        due("5", x.read(0, 0, 205, 1), 1);
        due("5", x.read(0, 0, 204, 1), 0);
        due("the way back is another", x.post(1, 0, 50, 60), 1);
        due("3", x.read(0, 0, 103, 0), 1);
        due("to itself", x.post(1, 1, 400, 400), 1);
        due("400", x.read(1, 0, 500, 0), 1);
        due("400", x.read(1, 0, 499, 0), 0);
        due("0, 0", x.post(5, 5, 0, 0), 1);
        due("from -1", x.post(-1, 0, 1, 2), BAD);
        due("from 6", x.post(6, 0, 1, 2), BAD);
        due("to -1", x.post(0, -1, 1, 2), BAD);
        due("to 6", x.post(0, 6, 1, 2), BAD);
        due("least -1", x.post(0, 1, -1, 2), BAD);
        due("most 401", x.post(0, 1, 1, 401), BAD);
        due("least above most", x.post(0, 1, 3, 2), BAD);
        due("kept", x.read(0, 0, 103, 0), 1);
    }

    private static void read() {
        LetterDrawer x = drawer(2, 0, 0);
        x.letter(0, 0, 1, 0);
        x.days(0, 10, 20);
        due("CAN", x.read(0, 1, 10, 0), 1);
        due("CAN not yet", x.read(0, 1, 9, 0), 0);
        due("MUST", x.read(0, 1, 22, 1), 1);
        due("MUST not yet", x.read(0, 1, 21, 1), 0);
        due("not its reader", x.read(0, 0, 9999, 0), 0);
        due("letter -1", x.read(-1, 1, 10, 0), BAD);
        due("letter 1", x.read(1, 1, 10, 0), BAD);
        due("person -1", x.read(0, -1, 10, 0), BAD);
        due("person 2", x.read(0, 2, 10, 0), BAD);
        due("day -1", x.read(0, 1, -1, 0), BAD);
        due("day 10000", x.read(0, 1, 10000, 0), BAD);
        due("what -1", x.read(0, 1, 10, -1), BAD);
        due("what 2", x.read(0, 1, 10, 2), BAD);
        x.week(0, 5);
        due("by THE SPAN: 12", x.read(0, 1, 11, 0), 0);
        due("by THE SPAN: 12", x.read(0, 1, 12, 0), 1);
        due("by THE SPAN: 19", x.read(0, 1, 21, 1), 1);
        x.letter(0, 0, 1, 0);
        x.days(1, 0, 5);
        x.bound(0, 1, 0);
        due("CLASH", x.read(0, 1, 9999, 0), 0);
        due("BAD also then", x.read(0, 1, 10000, 0), BAD);
    }

    private static void readByKind() {
        LetterDrawer x = new LetterDrawer();
        x.person(1, 0);
        x.person(2, 1);
        x.person(3, 2);
        for (int kind = 0; kind < 6; kind++) {
            x.letter(kind, 0, 1, 3);
            x.days(kind, 50, 60);
        }
        x.post(3, 1, 4, 6);
        x.post(3, 2, 8, 9);
        for (int kind = 0; kind < 6; kind++) {
            int ever = kind == 1 ? 0 : 1;
            due("CAN of kind " + kind, x.read(kind, 1, 54, 0), ever);
            due("CAN not of kind " + kind, x.read(kind, 1, 53, 0), 0);
            due("MUST of kind " + kind, x.read(kind, 1, 66, 1), ever);
            due("MUST not of kind " + kind, x.read(kind, 1, 65, 1), 0);
            due("another one, of kind " + kind, x.read(kind, 2, 58, 0), kind == 5 ? 1 : 0);
            due("another one not yet, of kind " + kind, x.read(kind, 2, 57, 0), 0);
            due("another one MUST, of kind " + kind, x.read(kind, 2, 69, 1), kind == 5 ? 1 : 0);
            due("its writer, of kind " + kind, x.read(kind, 0, 9999, 0), 0);
        }
        x.letter(5, 0, 0, 3);
        due("a CIRCULAR's writer who is its reader", x.read(6, 0, 9999, 0), 0);
        x.letter(0, 0, 0, 3);
        due("a LETTER to its writer", x.read(7, 0, 9999, 0), 1);
        x.found(4, 0);
        x.days(0, 55, 60);
        due("a FOUND one by THE SPAN of both", x.read(4, 1, 58, 0), 0);
        due("a FOUND one by THE SPAN of both", x.read(4, 1, 59, 0), 1);
    }

    private static void reads() {
        LetterDrawer x = drawer(2, 0, 0);
        due("none", x.reads(0, 9999, 0), 0);
        int[] kinds = {0, 1, 3, 5, 4};
        for (int i = 0; i < kinds.length; i++) {
            x.letter(kinds[i], 0, 1, 0);
            x.days(i, 10 * i, 10 * i + 5);
        }
        x.letter(0, 1, 0, 0);
        due("CAN, all", x.reads(1, 9999, 0), 4);
        due("CAN, by 30", x.reads(1, 30, 0), 3);
        due("CAN, by 29", x.reads(1, 29, 0), 2);
        due("MUST, by 27", x.reads(1, 27, 1), 2);
        due("MUST, by 26", x.reads(1, 26, 1), 1);
        due("another person", x.reads(0, 9999, 0), 1);
        due("person -1", x.reads(-1, 0, 0), BAD);
        due("person 2", x.reads(2, 0, 0), BAD);
        due("day -1", x.reads(1, -1, 0), BAD);
        due("day 10000", x.reads(1, 10000, 0), BAD);
        due("what -1", x.reads(1, 0, -1), BAD);
        due("what 2", x.reads(1, 0, 2), BAD);
        x.bound(2, 0, 0);
        due("CLASH", x.reads(1, 9999, 0), 0);
        due("BAD also then", x.reads(1, 9999, 2), BAD);
    }

    private static void means() {
        LetterDrawer x = new LetterDrawer();
        x.person(5, 0);
        x.person(7, 0);
        x.person(7, 1);
        x.person(8, 1);
        x.letter(0, 0, 1, 0);
        x.letter(0, 1, 0, 0);
        due("nobody KNOWN", x.means(0, 7), 0);
        x.knows(0, 1, true);
        x.knows(0, 2, true);
        due("two", x.means(0, 7), 2);
        due("another writer", x.means(1, 7), 0);
        due("not KNOWN", x.means(0, 8), 0);
        due("nobody's", x.means(0, 99), 0);
        x.lived(1, 0, 50);
        x.days(0, 51, 60);
        due("one in his DAYS", x.means(0, 7), 1);
        x.days(1, 0, 10);
        x.bound(0, 1, 0);
        due("CLASH: all DAYS", x.means(0, 7), 2);
        x.lived(1, 0, 0);
        x.lived(2, 9999, 9999);
        due("CLASH: the first DAY and the last one too", x.means(0, 7), 2);
        x.hand(0, 7, 3);
        due("a HAND's word", x.means(0, 7), 1);
        x.hand(0, 99, 3);
        due("a HAND's word for nobody's NAME", x.means(0, 99), 1);
        due("of the LETTER only", x.means(1, 99), 0);
        due("letter -1", x.means(-1, 7), BAD);
        due("letter 2", x.means(2, 7), BAD);
        due("name 0", x.means(0, 0), BAD);
        due("name 100", x.means(0, 100), BAD);
        LetterDrawer y = drawer(2, 2, 0);
        y.knows(0, 1, true);
        y.lived(1, 0, 50);
        y.days(0, 0, 100);
        due("as told", y.means(0, 2), 1);
        y.days(1, 60, 100);
        y.bound(1, 0, 0);
        due("by THE SPAN", y.means(0, 2), 0);
    }

    private static void who() {
        LetterDrawer x = new LetterDrawer();
        x.person(7, 0);
        x.person(7, 0);
        x.person(9, 0);
        x.letter(0, 0, 1, 0);
        due("nobody", x.who(0, 7), NONE);
        x.knows(0, 1, true);
        due("SURE", x.who(0, 7), 1);
        x.knows(0, 0, true);
        due("one of two", x.who(0, 7), NONE);
        x.knows(0, 1, false);
        due("himself", x.who(0, 7), 0);
        x.hand(0, 7, 2);
        due("a HAND's word", x.who(0, 7), 2);
        due("another NAME", x.who(0, 9), NONE);
        due("letter -1", x.who(-1, 7), BAD);
        due("letter 1", x.who(1, 7), BAD);
        due("name 0", x.who(0, 0), BAD);
        due("name 100", x.who(0, 100), BAD);
    }

    private static void hand() {
        LetterDrawer x = drawer(3, 2, 0);
        due("letter -1", x.hand(-1, 7, 0), BAD);
        due("letter 2", x.hand(2, 7, 0), BAD);
        due("name 0", x.hand(0, 0, 0), BAD);
        due("name 100", x.hand(0, 100, 0), BAD);
        due("person -1", x.hand(0, 7, -1), BAD);
        due("person 3", x.hand(0, 7, 3), BAD);
        due("first", x.hand(0, 7, 0), 1);
        due("like one", x.hand(0, 7, 1), 1);
        due("the latest", x.who(0, 7), 1);
        due("another LETTER", x.hand(1, 7, 2), 2);
        due("the first one stands", x.who(0, 7), 1);
        for (int i = 3; i <= 10; i++) {
            due("another NAME", x.hand(1, 10 + i, 0), i);
        }
        due("11th", x.hand(1, 99, 0), FULL);
        due("BAD ahead of FULL", x.hand(1, 99, 3), BAD);
        due("like one when full", x.hand(1, 20, 2), 10);
        due("the latest", x.who(1, 20), 2);
        due("the 11th did not come", x.means(1, 99), 0);
        due("how many", x.count(5), 10);
    }

    private static void feed() {
        LetterDrawer x = drawer(1, 1, 0);
        due("n 0", x.feed(0, 97), BAD);
        due("n -1", x.feed(-1, 97), BAD);
        due("n 9", x.feed(9, 97), BAD);
        due("n MAX", x.feed(MAX, 97), BAD);
        due("the lowest one", x.feed(1, 0x6261), 1);
        due("behind it", x.feed(3, 0x646362), 4);
        due("text", x.text(0), 4);
        printDue(x, 0, 0, 0, "abcd");
        due("eight", x.feed(8, 0x6867666564636261L), 8);
        x.text(0);
        printDue(x, 0, 0, 0, "abcdefgh");
        for (int i = 1; i <= 19; i++) {
            x.feed(8, 0x2020202020202020L);
        }
        due("156", x.feed(4, 0x61616161), 156);
        due("161", x.feed(5, 0x6161616161L), FULL);
        due("nothing came", x.count(4), 156);
        due("160", x.feed(4, 0x62626262), 160);
        due("161", x.feed(1, 97), FULL);
        due("BAD ahead of FULL", x.feed(9, 97), BAD);
        due("160 bytes", x.text(0), 160);
        due("the last", x.printed(0, 0, 0, 159), 'b');
        due("empty then", x.feed(1, -1), 1);
        due("a byte of 255", x.text(0), -21);
    }

    private static void text() {
        LetterDrawer x = drawer(1, 2, 0);
        due("text", write(x, 0, "ab c."), 5);
        due("tape is empty", x.count(4), 0);
        feedAll(x, "xyz");
        due("letter -1", x.text(-1), BAD);
        due("letter 2", x.text(2), BAD);
        due("the tape stays", x.count(4), 3);
        feedAll(x, "!");
        due("kind 1", x.text(0), -21);
        due("tape is empty", x.count(4), 0);
        printDue(x, 0, 0, 1, "ab c.");
        due("kind 2", write(x, 0, "{n2}"), -22);
        due("tape is empty", x.count(4), 0);
        printDue(x, 0, 0, 1, "ab c.");
        due("another one", write(x, 1, "b"), 1);
        printDue(x, 0, 0, 1, "ab c.");
        due("shorter", write(x, 0, "q"), 1);
        printDue(x, 0, 0, 1, "q");
        due("empty", x.text(0), 0);
        printDue(x, 0, 0, 1, "");
    }

    private static void fault() {
        LetterDrawer x = drawer(1, 1, 0);
        due("ahead of any", x.fault(0), 0);
        due("ahead of any", x.fault(1), NONE);
        due("what -1", x.fault(-1), BAD);
        due("what 2", x.fault(2), BAD);
        write(x, 0, "ab!");
        due("kind", x.fault(0), 1);
        due("place", x.fault(1), 2);
        x.text(5);
        due("a BAD one does not count", x.fault(1), 2);
        write(x, 0, "");
        due("without one", x.fault(0), 0);
        due("without one", x.fault(1), NONE);
        textFault("", 0, NONE);
        textFault("az .{d{a{u{hx}}}}", 0, NONE);
        textFault("{s9999:}{n0001}{d}", 0, NONE);
        textFault("{d{s0:{n1}}}", 0, NONE);
        textFault("{d}{d}", 0, NONE);
        textFault("{s1:{d}{a}}", 0, NONE);
        textFault("A", 1, 0);
        textFault("`", 1, 0);
        textFault("a{", 1, 2);
        textFault("a{d", 1, 3);
        textFault("a{da", 1, 4);
        textFault("}", 1, 0);
        textFault("{d}}", 1, 3);
        textFault("{}", 1, 1);
        textFault("{ d}", 1, 1);
        textFault("{e}", 1, 1);
        textFault("{{d}}", 1, 1);
        textFault("1", 1, 0);
        textFault("{s:a}", 1, 2);
        textFault("{s", 1, 2);
        textFault("{s1", 1, 3);
        textFault("{s1}", 1, 3);
        textFault("{s12345:}", 1, 6);
        textFault("{s1:", 1, 4);
        textFault("{n}", 1, 2);
        textFault("{n1:}", 1, 3);
        textFault("{n00001}", 1, 6);
        textFault("{n1", 1, 3);
        textFault("{n1{n1}}", 1, 3);
        textFault("{a{a}}", 1, 2);
        textFault("{a{d{a}}}", 1, 4);
        textFault("{s1:{s2:}}", 1, 4);
        textFault("{s1:{d{s", 1, 6);
        textFault("{a{", 1, 3);
        textFault("{a{x", 1, 3);
        textFault("{a{d{u{h{n1}}}}}", 1, 8);
        textFault("{a{d{u{h{", 1, 8);
        textFault("{a{d{u{h}{h}}}}", 0, NONE);
        textFault("{a{d{u{n1}{h}}}}", 0, NONE);
        textFault("{n2}", 2, 0);
        textFault("{n1}{d {n3}}{n4}", 2, 7);
        textFault("{n0002}", 2, 0);
        textFault("{n2}!", 1, 4);
        textFault("{n2}{d", 1, 6);
    }

    private static void print() {
        LetterDrawer x = drawer(1, 1, 0);
        write(x, 0, "a.{dbc}{ad}{ue}{hf}{s100:g}{n000} ");
        printDue(x, 0, 99, 0, "a.def ");
        printDue(x, 0, 100, 0, "a.defg ");
        printDue(x, 0, 99, 1, "a.<bc>/d/[e]'f'_(0) ");
        printDue(x, 0, 100, 1, "a.<bc>/d/[e]'f'g(0) ");
        due("letter -1", x.print(-1, 0, 0), BAD);
        due("letter 1", x.print(1, 0, 0), BAD);
        due("day -1", x.print(0, -1, 0), BAD);
        due("day 10000", x.print(0, 10000, 0), BAD);
        due("way -1", x.print(0, 0, -1), BAD);
        due("way 2", x.print(0, 0, 2), BAD);
        write(x, 0, "{d{ax{n0}}}y{s0010:p{dq{u}}r}z");
        printDue(x, 0, 9, 0, "yz");
        printDue(x, 0, 10, 0, "yprz");
        printDue(x, 0, 9, 1, "</x(0)/>y_z");
        printDue(x, 0, 10, 1, "</x(0)/>yp<q[]>rz");
        write(x, 0, "{s0:a}{s9999:b}{d{s5:c}d}{a{s5:{h}}}");
        printDue(x, 0, 0, 0, "a");
        printDue(x, 0, 0, 1, "a_<_d>/_/");
        printDue(x, 0, 5, 1, "a_<cd>/''/");
        printDue(x, 0, 9999, 1, "ab<cd>/''/");
        printDue(x, 0, 9999, 0, "ab");
    }

    private static void printed() {
        LetterDrawer x = drawer(1, 12, 0);
        write(x, 0, "a{n11}{n0009}{n10}{n0}");
        printDue(x, 0, 0, 1, "a(11)(9)(10)(0)");
        printDue(x, 0, 0, 0, "a");
        due("i -1", x.printed(0, 0, 0, -1), NONE);
        due("i MIN", x.printed(0, 0, 0, MIN), NONE);
        due("i MAX", x.printed(0, 0, 1, MAX), NONE);
        due("without TEXT", x.printed(1, 0, 0, 0), NONE);
        due("letter -1", x.printed(-1, 0, 0, 0), BAD);
        due("letter 12", x.printed(12, 0, 0, 0), BAD);
        due("day -1", x.printed(0, -1, 0, 0), BAD);
        due("day 10000", x.printed(0, 10000, 0, 0), BAD);
        due("way -1", x.printed(0, 0, -1, 0), BAD);
        due("way 2", x.printed(0, 0, 2, 0), BAD);
        due("BAD ahead of NONE", x.printed(0, 0, 2, -1), BAD);
    }

    private static void words() {
        LetterDrawer x = drawer(1, 1, 0);
        due("without TEXT", x.words(0), 0);
        String[] texts = {"", " . ", "a", "ab cd", "ab.cd ", " a  b..c", "a{d b }c", "a{d}b {s9999:c}d", "{h a}{ub }",
            "a{n0}b", "a{s5: }b"};
        int[] wants = {0, 0, 1, 2, 2, 3, 1, 2, 1, 1, 2};
        for (int i = 0; i < texts.length; i++) {
            write(x, 0, texts[i]);
            due("words of " + texts[i], x.words(0), wants[i]);
        }
        write(x, 0, "a ".repeat(80));
        due("80 words", x.words(0), 80);
        write(x, 0, "a".repeat(160));
        due("one word", x.words(0), 1);
        due("letter -1", x.words(-1), BAD);
        due("letter 1", x.words(1), BAD);
    }

    private static void differ() {
        String[][] pairs = {
            {"", "", "0"}, {"a b c", "a b c", "0"}, {"a.b c", " a b{d x} c", "0"}, {"a b c", "", "3"}, {"a b c", "a x c", "1"},
            {"a b c", "b c", "1"}, {"a b c d", "b c d a", "2"}, {"ab", "a b", "2"}, {"ab", "abc", "1"}, {"a b", "b a", "2"},
            {"k i t t e n", "s i t t i n g", "3"}, {"x y", "p x q y r", "3"}, {"ab cd", "{s9999:ab} cd", "0"},
            {"abc ab", "abc.abc", "1"}, {"abc.abd", "abc abc", "1"}, {"abc abd.", "abc.abd ", "0"}, {"xbc", "abc", "1"},
        };
        for (String[] pair : pairs) {
            LetterDrawer x = drawer(1, 2, 0);
            write(x, 0, pair[0]);
            write(x, 1, pair[1]);
            int want = Integer.parseInt(pair[2]);
            due(pair[0] + " to " + pair[1], x.differ(0, 1), want);
            due(pair[1] + " to " + pair[0], x.differ(1, 0), want);
            due(pair[0] + " to itself", x.differ(0, 0), 0);
        }
        LetterDrawer x = drawer(1, 2, 0);
        write(x, 0, "a ".repeat(80));
        write(x, 1, "b ".repeat(80));
        due("80 words", x.differ(0, 1), 80);
        due("a -1", x.differ(-1, 0), BAD);
        due("a 2", x.differ(2, 0), BAD);
        due("b -1", x.differ(0, -1), BAD);
        due("b 2", x.differ(0, 2), BAD);
    }

    private static void note() {
        LetterDrawer x = drawer(1, 12, 0);
        due("without TEXT", x.note(0, 0), NONE);
        write(x, 0, "{n3}a{d{n011}}{s9999:{n0}}{n3}");
        int[] wants = {3, 11, 0, 3, NONE};
        for (int i = 0; i < wants.length; i++) {
            due("note " + i, x.note(0, i), wants[i]);
        }
        due("i -1", x.note(0, -1), NONE);
        due("i MAX", x.note(0, MAX), NONE);
        due("letter -1", x.note(-1, 0), BAD);
        due("letter 12", x.note(12, 0), BAD);
        due("BAD ahead of NONE", x.note(12, -1), BAD);
        x.text(0);
        due("TEXT is another one", x.note(0, 0), NONE);
    }

    private static void jumps() {
        LetterDrawer x = drawer(1, 10, 0);
        for (int i = 0; i < 10; i++) {
            x.days(i, i * 3 % 10 * 100, 9999);
        }
        due("none", x.jumps(0), 0);
        due("one", x.jumps(1 << 9), 0);
        due("two", x.jumps(0b11), 300);
        due("eight", x.jumps(0xFF), 900);
        due("nine", x.jumps(0x1FF), BAD);
        due("others", x.jumps(1 << 10), BAD);
        due("below 0", x.jumps(-1), BAD);
        due("the highest bit", x.jumps(MIN), BAD);
        x.bound(1, 0, 1);
        due("moved", x.jumps(0b11), 1);
        LetterDrawer y = drawer(1, 3, 0);
        y.days(0, 10, 10);
        y.days(1, 20, 20);
        y.days(2, 12, 30);
        due("any order", y.jumps(7), 10);
        y.bound(1, 2, -5);
        due("no BEFORE by it", y.jumps(7), 10);
        y.bound(2, 1, 10);
        due("CLASH", y.jumps(7), NONE);
        due("CLASH of none", y.jumps(0), NONE);
        due("BAD also then", y.jumps(8), BAD);
    }

    private static void orderDue(LetterDrawer x, int set, int... row) {
        for (int i = 0; i < row.length; i++) {
            due("order of " + set + " at " + i, x.order(set, i), row[i]);
        }
        due("order of " + set + " behind", x.order(set, row.length), NONE);
    }

    private static void order() {
        LetterDrawer x = drawer(1, 4, 0);
        orderDue(x, 0);
        orderDue(x, 0b1111, 0, 1, 2, 3);
        for (int i = 0; i < 4; i++) {
            x.days(i, 400 - 100 * i, 9999);
        }
        orderDue(x, 0b1111, 0, 1, 2, 3);
        due("jumps", x.jumps(0b1111), 300);
        x.bound(3, 0, 1);
        orderDue(x, 0b1111, 3, 2, 1, 0);
        orderDue(x, 0b1010, 1, 3);
        x.bound(1, 2, -90);
        orderDue(x, 0b0110, 1, 2);
        x.days(2, 300, 9999);
        orderDue(x, 0b1111, 3, 1, 2, 0);
        x.bound(2, 1, 1);
        due("2 BEFORE 1", x.before(2, 1), 1);
        orderDue(x, 0b1111, 3, 2, 1, 0);
        due("i -1", x.order(1, -1), NONE);
        due("others", x.order(16, 0), BAD);
        due("BAD ahead of NONE", x.order(16, -1), BAD);
        x.bound(1, 2, 0);
        orderDue(x, 0b1111);
        due("BAD also then", x.order(-1, 0), BAD);
        LetterDrawer y = drawer(1, 9, 0);
        due("more than 8", y.order(0x1FF, 0), BAD);
        orderDue(y, 0x1FE, 1, 2, 3, 4, 5, 6, 7, 8);
        wayDown();
        farWay();
    }

    /** The way down is as short as the way up, but one BEFORE another shuts it. */
    private static void wayDown() {
        LetterDrawer x = drawer(1, 5, 0);
        int[] least = {200, 300, 100, 200, 300};
        for (int i = 0; i < 5; i++) {
            x.days(i, least[i], 9999);
        }
        orderDue(x, 0b00111, 1, 0, 2);
        orderDue(x, 0b11111, 1, 4, 0, 3, 2);
        x.bound(0, 1, 0);
        orderDue(x, 0b00111, 1, 0, 2);
        x.bound(0, 1, 1);
        orderDue(x, 0b00111, 2, 0, 1);
        orderDue(x, 0b11111, 2, 0, 3, 1, 4);
        orderDue(x, 0b11110, 1, 4, 3, 2);
        x.loose();
        x.days(2, 100, 299);
        orderDue(x, 0b00111, 2, 0, 1);
        orderDue(x, 0b00101, 0, 2);
    }

    private static void farWay() {
        LetterDrawer x = drawer(1, 4, 0);
        x.days(0, 100, 9999);
        x.days(1, 0, 9999);
        x.days(2, 90, 9999);
        x.days(3, 200, 9999);
        x.bound(2, 1, -80);
        x.bound(2, 3, 0);
        orderDue(x, 0b1111, 1, 2, 0, 3);
        due("jumps", x.jumps(0b1111), 200 - 10);
        x.loose();
        x.bound(3, 0, -300);
        x.bound(0, 3, -300);
        due("not BEFORE", x.before(3, 0), 0);
        orderDue(x, 0b1111, 1, 2, 0, 3);
    }

    private static void count() {
        LetterDrawer x = drawer(3, 1, 0);
        x.letter(4, 0, 0, 0);
        x.letter(4, 0, 0, 0);
        x.bound(0, 1, 0);
        x.bound(0, 1, 0);
        x.bound(0, 1, 0);
        x.bound(0, 1, 0);
        x.hand(0, 3, 0);
        feedAll(x, "abcde");
        int[] wants = {3, 3, 4, 2, 5, 1};
        for (int what = 0; what < wants.length; what++) {
            due("count " + what, x.count(what), wants[what]);
        }
        x.found(1, 0);
        due("one LOST", x.count(3), 1);
        x.lose(1);
        due("two LOST", x.count(3), 2);
        x.loose();
        due("three BOUNDS", x.count(2), 3);
        due("what -1", x.count(-1), BAD);
        due("what 6", x.count(6), BAD);
        due("twelve LOST", drawer(1, 12, 4).count(3), 12);
    }

    private static void tray() {
        LetterDrawer x = new LetterDrawer();
        due("tray -1", x.tray(-1, 1), BAD);
        due("tray 4", x.tray(4, 1), BAD);
        due("n 61", x.tray(0, 61), BAD);
        due("n -2", x.tray(0, -2), -14);
        due("n MIN", x.tray(0, MIN), -14);
        due("no such TRAY ahead of -14", x.tray(4, -2), BAD);
        due("still missing", x.cell(0, 0, 1), -11);
        due("n 60", x.tray(3, 60), 1);
        due("the last byte", x.cell(3, 59, 1), 1);
        due("n 0", x.tray(0, 0), 1);
        due("no byte in it", x.cell(0, 0, 1), -12);
        due("missing", x.tray(3, NONE), 1);
        due("is missing", x.cell(3, 0, 1), -11);
        due("anew", x.tray(3, 60), 1);
        due("all 0: laid", x.lay(3, 0, 60), 60);
        x.person(1, 0);
        x.letter(0, 0, 0, 0);
        due("all 0: no TEXT", x.text(0), -21);
        due("place", x.fault(1), 0);
        x.tray(1, 3);
        for (int i = 0; i < 3; i++) {
            x.cell(1, i, 'a');
        }
        x.tray(1, 3);
        x.cell(1, 0, 'a');
        x.lay(1, 0, 3);
        x.text(0);
        due("0 again from the second on", x.fault(1), 1);
        x.cell(1, 0, 'b');
        x.tray(1, 3);
        x.lay(1, 0, 1);
        x.text(0);
        due("0 again at the first too", x.fault(1), 0);
        due("a refused one", x.tray(1, 61), BAD);
        due("a refused one", x.tray(1, -2), -14);
        due("changes nothing", x.lay(1, 0, 3), 3);
    }

    private static void cell() {
        LetterDrawer x = drawer(1, 1, 0);
        due("tray -1", x.cell(-1, 0, 0), BAD);
        due("tray 4", x.cell(4, 0, 0), BAD);
        due("missing", x.cell(2, -1, 0), -11);
        x.tray(2, 3);
        due("i -1", x.cell(2, -1, 0), -12);
        due("i 3", x.cell(2, 3, 0), -12);
        due("i MIN", x.cell(2, MIN, 0), -12);
        due("v", x.cell(2, 0, 'a'), 1);
        due("the lowest 8 bits", x.cell(2, 1, 'b' + 256 * 77), 1);
        due("the lowest 8 bits", x.cell(2, 2, 'c' - 256), 1);
        x.lay(2, 0, 3);
        due("text", x.text(0), 3);
        printDue(x, 0, 0, 0, "abc");
    }

    private static void lay() {
        LetterDrawer x = drawer(1, 1, 0);
        due("tray -1", x.lay(-1, 0, 1), BAD);
        due("tray 4", x.lay(4, 0, 1), BAD);
        due("n -1", x.lay(0, 0, -1), BAD);
        due("BAD ahead of -11", x.lay(0, 0, MIN), BAD);
        due("missing", x.lay(0, 0, 1), -11);
        due("missing, n 0", x.lay(0, 0, 0), -11);
        x.tray(0, 60);
        for (int i = 0; i < 60; i++) {
            x.cell(0, i, 'a' + i % 26);
        }
        due("n 0", x.lay(0, 0, 0), 0);
        due("n 0 from beyond", x.lay(0, 99, 0), 0);
        due("three", x.lay(0, 2, 3), 3);
        due("from -1", x.lay(0, -1, 3), -12);
        due("from 60", x.lay(0, 60, 1), -12);
        due("from MAX", x.lay(0, MAX, 2), -12);
        due("from MIN", x.lay(0, MIN, 2), -12);
        due("nothing came", x.count(4), 3);
        due("two of them", x.lay(0, 58, MAX), -12);
        due("two came", x.count(4), 5);
        due("text", x.text(0), 5);
        printDue(x, 0, 0, 0, "cdegh");
        x.lay(0, 0, 60);
        due("120", x.lay(0, 0, 60), 120);
        due("FULL", x.lay(0, 1, 50), FULL);
        due("forty came", x.count(4), 160);
        due("FULL for one", x.lay(0, 0, 1), FULL);
        due("-12 ahead of FULL", x.lay(0, 60, 1), -12);
        due("n 0 on a full one", x.lay(0, 0, 0), 160);
        due("text", x.text(0), 160);
        due("the last", x.printed(0, 0, 0, 159), 'a' + 40 % 26);
        x.tray(1, 0);
        due("a row of none", x.lay(1, 0, 1), -12);
    }

    private static void taken() {
        LetterDrawer x = drawer(6, 0, 0);
        for (int kind = 0; kind < 6; kind++) {
            x.letter(kind, kind, 0, 0);
        }
        boolean[][] under = new boolean[6][6];
        for (int kind = 0; kind < 6; kind++) {
            under[kind][kind] = true;
            under[kind][0] = true;
        }
        under[5][2] = true;
        for (int kind = 0; kind < 6; kind++) {
            for (int k = 0; k < 6; k++) {
                due(kind + " taken for " + k, x.taken(kind, k), under[kind][k] ? kind : -13);
            }
        }
        due("k -1", x.taken(0, -1), BAD);
        due("k 6", x.taken(0, 6), BAD);
        due("letter -1", x.taken(-1, 0), -11);
        due("letter 6", x.taken(6, 0), -11);
        due("BAD ahead of -11", x.taken(6, 6), BAD);
    }
}
