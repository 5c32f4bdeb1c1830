import java.util.ArrayList;
import java.util.List;

/** THE SPAN, THE CLASH and BEFORE against all choices of DAYS, one by one, for few LETTERS with few DAYS. */
public final class EveryChoiceTest {
    private static final int RUNS = 3000;
    private static final Check check = new Check();

    private final Dice dice;
    private final int letters;
    private final int[] least, greatest, weekday, found;
    private final List<int[]> bounds = new ArrayList<>();
    private int[] lows, highs;

    private EveryChoiceTest(int seed) {
        dice = new Dice(seed);
        letters = dice.from(2, 4);
        least = new int[letters];
        greatest = new int[letters];
        weekday = new int[letters];
        found = new int[letters];
    }

    public static void main(String[] args) {
        for (int seed = 1; seed <= RUNS; seed++) {
            new EveryChoiceTest(seed).play("run " + seed + " ");
        }
        check.end();
    }

    private void play(String run) {
        LetterDrawer x = new LetterDrawer();
        x.person(1, 0);
        for (int i = 0; i < letters; i++) {
            boolean lost = i > 0 && dice.one(3);
            x.letter(lost ? 4 : 0, 0, 0, 0);
            least[i] = dice.below(12);
            greatest[i] = least[i] + dice.from(4, 13);
            weekday[i] = dice.one(2) ? -1 : dice.below(7);
            found[i] = lost && dice.one(2) ? 0 : -1;
            x.days(i, least[i], greatest[i]);
            x.week(i, weekday[i]);
            if (found[i] == 0) {
                x.found(i, 0);
            }
        }
        for (int i = dice.below(6); i > 0; i--) {
            int a = dice.below(letters), b = (a + dice.from(1, letters - 1)) % letters, d = dice.from(-9, 4);
            bounds.add(new int[] {a, b, d});
            x.bound(a, b, d);
        }
        compare(run, x);
    }

    private void compare(String run, LetterDrawer x) {
        boolean free = choose(bounds);
        for (int i = 0; i < letters; i++) {
            check.due(run + "least of " + i, x.span(i, 0), free ? lows[i] : -1);
            check.due(run + "greatest of " + i, x.span(i, 1), free ? highs[i] : -1);
        }
        for (int a = 0; a < letters; a++) {
            for (int b = 0; b < letters; b++) {
                if (a != b) {
                    boolean ahead = free && (highs[a] < lows[b] || farthest(a, b) > 0);
                    check.due(run + "before " + a + " " + b, x.before(a, b), ahead ? 1 : 0);
                }
            }
        }
        check.due(run + "clash", x.clash(), free ? -1 : culprits());
    }

    private int culprits() {
        int kept = (1 << bounds.size()) - 1;
        for (int k = bounds.size() - 1; k >= 0; k--) {
            List<int[]> rest = new ArrayList<>();
            for (int i = 0; i < bounds.size(); i++) {
                if (i != k && (kept >> i & 1) == 1) {
                    rest.add(bounds.get(i));
                }
            }
            kept = choose(rest) ? kept : kept & ~(1 << k);
        }
        return kept;
    }

    private boolean choose(List<int[]> some) {
        lows = null;
        tryFrom(0, new int[letters], some);
        return lows != null;
    }

    private void tryFrom(int letter, int[] days, List<int[]> some) {
        if (letter == letters) {
            keep(days);
            return;
        }
        for (int day = least[letter]; day <= greatest[letter]; day++) {
            days[letter] = day;
            boolean suits = weekday[letter] == -1 || day % 7 == weekday[letter];
            suits &= found[letter] == -1 || day == days[0];
            for (int[] bound : some) {
                suits &= Math.max(bound[0], bound[1]) != letter || days[bound[1]] - days[bound[0]] >= bound[2];
            }
            if (suits) {
                tryFrom(letter + 1, days, some);
            }
        }
    }

    private void keep(int[] days) {
        if (lows == null) {
            lows = days.clone();
            highs = days.clone();
        }
        for (int i = 0; i < letters; i++) {
            lows[i] = Math.min(lows[i], days[i]);
            highs[i] = Math.max(highs[i], days[i]);
        }
    }

    /** The greatest sum of d from a to b over up to six BOUNDS, step by step. */
    private int farthest(int a, int b) {
        int none = -1000000;
        int[] sum = new int[letters];
        for (int i = 0; i < letters; i++) {
            sum[i] = isOne(i, a) ? 0 : none;
        }
        for (int step = 0; step < 6; step++) {
            int[] next = sum.clone();
            for (int[] bound : bounds) {
                for (int i = 0; i < letters; i++) {
                    if (isOne(i, bound[1]) && sum[bound[0]] > none / 2) {
                        next[i] = Math.max(next[i], sum[bound[0]] + bound[2]);
                    }
                }
            }
            sum = next;
        }
        return sum[b];
    }

    private boolean isOne(int i, int j) {
        return i == j || (i == 0 || found[i] == 0) && (j == 0 || found[j] == 0);
    }
}
