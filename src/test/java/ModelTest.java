/** Long thrown runs of calls, each answer against the model's. */
public final class ModelTest {
    private static final int RUNS = 400;
    private static final int CALLS = 512;
    private static final Check check = new Check();

    private final Dice dice;
    private final LetterDrawer x = new LetterDrawer();
    private final Model m = new Model();
    private final int width;
    private String run;

    private ModelTest(int seed) {
        dice = new Dice(seed);
        width = dice.pick(5, 20, 60, 1000);
        run = "run " + seed;
    }

    public static void main(String[] args) {
        for (int seed = 1; seed <= RUNS && !check.failed(); seed++) {
            new ModelTest(seed).play();
        }
        check.end();
    }

    private void due(String call, int got, int want) {
        check.due(run + ": " + call, got, want);
    }

    private void play() {
        int persons = dice.from(1, 10), letters = dice.from(1, 12);
        for (int i = 0; i < persons; i++) {
            int name = dice.from(1, 4), place = dice.below(6);
            due("person", x.person(name, place), m.person(name, place));
        }
        for (int i = 0; i < letters; i++) {
            int kind = dice.one(3) ? 4 : dice.below(6), from = dice.below(persons), to = dice.below(persons), place = dice.below(6);
            due("letter", x.letter(kind, from, to, place), m.letter(kind, from, to, place));
        }
        for (int call = persons + letters; call < CALLS; call++) {
            run = run.replaceAll(" call.*", "") + " call " + call;
            switch (dice.below(6)) {
                case 0 -> tell();
                case 1 -> tellDays();
                case 2 -> askDays();
                case 3 -> askOthers();
                case 4 -> texts();
                default -> order();
            }
        }
    }

    private int letter() {
        return dice.one(40) ? dice.pick(-1, 12, 99) : dice.below(Math.max(1, m.count(1)));
    }

    private int person() {
        return dice.one(40) ? dice.pick(-1, 10, 99) : dice.below(Math.max(1, m.count(0)));
    }

    private int day() {
        return dice.one(60) ? dice.pick(-1, 10000) : dice.one(3) ? dice.below(10000) : dice.below(width * 2);
    }

    private void tell() {
        int a = person(), b = person(), i = letter(), name = dice.from(0, 5), place = dice.below(7);
        int first = day(), last = day();
        boolean is = !dice.one(4);
        switch (dice.below(8)) {
            case 0 -> due("person", x.person(name, place), m.person(name, place));
            case 1 -> due("lived", x.lived(a, first, last), m.lived(a, first, last));
            case 2, 3 -> due("knows", x.knows(a, b, is), m.knows(a, b, is));
            case 4 -> due("letter", x.letter(place, a, b, place - 1), m.letter(place, a, b, place - 1));
            case 5 -> due("told", x.told(i, name + place), m.told(i, name + place));
            case 6 -> due("hand", x.hand(i, name, a), m.hand(i, name, a));
            default -> due("post", x.post(place, name, first / 30, last / 30), m.post(place, name, first / 30, last / 30));
        }
    }

    private void tellDays() {
        int a = letter(), b = letter(), least = day(), most = dice.one(2) ? 9999 : least + dice.below(width * 2);
        int weekday = dice.from(-1, 7), d = dice.one(50) ? dice.pick(-501, 501) : dice.from(-width, width) / 2;
        switch (dice.below(10)) {
            case 0, 1 -> due("days", x.days(a, least, most), m.days(a, least, most));
            case 2 -> due("week", x.week(a, weekday), m.week(a, weekday));
            case 3 -> due("week", x.week(a, -1), m.week(a, -1));
            case 4, 5 -> due("bound", x.bound(a, b, d), m.bound(a, b, d));
            case 6 -> due("loose", x.loose(), m.loose());
            case 7 -> due("found", x.found(a, b), m.found(a, b));
            case 8 -> due("lose", x.lose(a), m.lose(a));
            default -> {
                while (m.clash() != -1 && m.count(2) > 0) {
                    due("loose", x.loose(), m.loose());
                }
            }
        }
    }

    private void askDays() {
        int a = letter(), b = letter(), what = dice.one(30) ? 2 : dice.below(2);
        switch (dice.below(4)) {
            case 0 -> due("clash", x.clash(), m.clash());
            case 1 -> due("before", x.before(a, b), m.before(a, b));
            default -> due("span " + a, x.span(a, what), m.span(a, what));
        }
    }

    private void askOthers() {
        int i = letter(), p = person(), day = day(), what = dice.one(30) ? -1 : dice.below(2), name = dice.from(0, 5);
        switch (dice.below(6)) {
            case 0 -> due("read", x.read(i, p, day, what), m.read(i, p, day, what));
            case 1 -> due("reads", x.reads(p, day, what), m.reads(p, day, what));
            case 2 -> due("means", x.means(i, name), m.means(i, name));
            case 3 -> due("who", x.who(i, name), m.who(i, name));
            case 4 -> due("taken", x.taken(i, name), m.taken(i, name));
            default -> due("count", x.count(name), m.count(name));
        }
    }

    private void order() {
        int set = dice.below(1 << m.count(1)), i = dice.from(-1, 8);
        if (dice.one(30)) {
            set |= dice.pick(1 << 12, 1 << 31, -1);
        }
        while (Integer.bitCount(set) > 6 && !dice.one(50)) {
            set &= set - 1;
        }
        due("jumps " + set, x.jumps(set), m.jumps(set));
        due("order " + set + " " + i, x.order(set, i), m.order(set, i));
        host();
    }

    private void host() {
        int tray = dice.one(30) ? 4 : dice.below(4), i = dice.from(-1, 20), n = dice.from(-1, 20), v = dice.pick('a', '.', ' ', 0, 867);
        switch (dice.below(4)) {
            case 0 -> due("tray", x.tray(tray, n * 3), m.tray(tray, n * 3));
            case 1, 2 -> due("cell", x.cell(tray, i, v), m.cell(tray, i, v));
            default -> due("lay", x.lay(tray, i, n), m.lay(tray, i, n));
        }
    }

    private void texts() {
        int i = letter(), other = letter(), day = dice.pick(0, 5, 9, 10, 9999, day()), way = dice.one(30) ? 2 : dice.below(2);
        switch (dice.below(6)) {
            case 0, 1 -> tellText(i);
            case 2 -> {
                due("print", x.print(i, day, way), m.print(i, day, way));
                for (int at = -1; at <= m.print(i, day, way); at++) {
                    due("printed " + at, x.printed(i, day, way, at), m.printed(i, day, way, at));
                }
            }
            case 3 -> due("words", x.words(i), m.words(i));
            case 4 -> due("differ", x.differ(i, other), m.differ(i, other));
            default -> {
                for (int at = -1; at < 4; at++) {
                    due("note " + at, x.note(i, at), m.note(i, at));
                }
            }
        }
    }

    private void tellText(int letter) {
        StringBuilder text = new StringBuilder();
        write(text, 0, dice.from(1, 12));
        if (dice.one(3) && text.length() > 0) {
            text.setCharAt(dice.below(text.length()), "{}dausn19: .x".charAt(dice.below(13)));
        }
        if (dice.one(8)) {
            text.setLength(dice.below(text.length() + 1));
        }
        for (int at = 0; at < text.length();) {
            int n = Math.min(dice.from(1, 8), text.length() - at);
            long bytes = (long) dice.below(1000) << 54;
            for (int i = n - 1; i >= 0; i--) {
                bytes = bytes << 8 | text.charAt(at + i);
            }
            due("feed", x.feed(n, bytes), m.feed(n, bytes));
            at += n;
        }
        due("text " + text, x.text(letter), m.text(letter));
        due("fault kind of " + text, x.fault(0), m.fault(0));
        due("fault place of " + text, x.fault(1), m.fault(1));
    }

    private void write(StringBuilder text, int open, int parts) {
        for (int i = 0; i < parts; i++) {
            int what = dice.below(10);
            if (what < 6 || open > 4) {
                text.append("ab .".charAt(dice.below(4)));
            } else if (what == 6) {
                text.append("{n").append(dice.one(2) ? "0" : "").append(dice.below(13)).append('}');
            } else {
                int sort = dice.below(5);
                text.append('{').append("dauhs".charAt(sort));
                if (sort == 4) {
                    text.append(dice.pick(0, 5, 10, 9999)).append(':');
                }
                write(text, open + 1, dice.below(3));
                text.append('}');
            }
        }
    }
}
