import java.lang.management.ManagementFactory;

/** What a run makes is counted: an object stays small, and its calls make nothing. */
public final class RoomTest {
    private static final int OBJECTS = 1000;
    private static final int ROUNDS = 2000;
    private static final Check check = new Check();
    private static long sum = 0;

    public static void main(String[] args) {
        com.sun.management.ThreadMXBean threads = (com.sun.management.ThreadMXBean) ManagementFactory.getThreadMXBean();
        LetterDrawer x = new LetterDrawer();
        use(x);
        long start = threads.getCurrentThreadAllocatedBytes();
        for (int i = 0; i < ROUNDS; i++) {
            use(x);
        }
        long used = threads.getCurrentThreadAllocatedBytes() - start;
        check.holds("calls make nothing: " + used + " bytes", used < 100 * ROUNDS);
        start = threads.getCurrentThreadAllocatedBytes();
        for (int i = 0; i < OBJECTS; i++) {
            sum += new LetterDrawer().count(0);
        }
        used = (threads.getCurrentThreadAllocatedBytes() - start) / OBJECTS;
        check.holds("an object is small: " + used + " bytes", used < 30000);
        System.out.println("answers make " + sum);
        check.end();
    }

    private static void use(LetterDrawer x) {
        sum += x.person(5, 0) + x.person(6, 1) + x.lived(0, 5, 6) + x.knows(0, 1, true);
        sum += x.letter(4, 0, 1, 2) + x.letter(0, 0, 1, 2) + x.letter(0, 1, 0, 2) + x.told(0, 2);
        sum += x.days(0, 4, 90) + x.week(1, 4) + x.bound(0, 1, 5) + x.bound(1, 2, -5) + x.loose();
        sum += x.found(0, 1) + x.lose(0) + x.span(0, 1) + x.before(0, 1);
        sum += x.bound(1, 0, 3) + x.bound(0, 1, 3) + x.clash() + x.loose() + x.loose();
        sum += x.post(0, 1, 2, 3) + x.read(0, 1, 50, 0) + x.reads(0, 60, 1);
        sum += x.means(0, 6) + x.who(0, 6) + x.hand(0, 7, 1);
        sum += x.feed(8, 0x7D616361627B6162L) + x.text(1) + x.feed(5, 0x6261206162L) + x.text(0) + x.fault(1);
        sum += x.print(0, 7, 1) + x.printed(0, 7, 0, 1) + x.words(0) + x.differ(0, 1) + x.note(0, 0);
        sum += x.jumps(0xFF) + x.order(0xFF, 3) + x.count(3);
        sum += x.tray(0, 30) + x.cell(0, 1, 'a') + x.lay(0, 1, 1) + x.text(0) + x.taken(0, 4);
    }
}
