import java.util.ArrayList;
import java.util.List;
import java.util.Random;

/**
 * Runs of any calls with any numbers. None may throw; and what is answered must not hang on the
 * questions asked before: a new object with the same changes and no questions answers alike.
 */
public final class AnyCallsTest {
    private static final int CHANGES = 13;
    private static final int CALLS = 24;
    private static final int[] EDGES = {Integer.MIN_VALUE, -51, -50, -1, 0, 1, 15, 16, 59, 60, 61, 299, 300, 800,
        1000, 1001, 1439, 1440, 3000, Integer.MAX_VALUE};
    private static final String[] TEXTS = {"may car on s1;      ", "not all from 0 to 9;", "limit 7;not bus;    ",
        "limit 20 on s0;     ", "limit 21;           ", "not car on s2;     ?"};
    private static int wrong = 0;

    public static void main(String[] args) {
        for (int run = 0; run < 400; run++) {
            wild(new Random(run));
        }
        for (int run = 0; run < 60; run++) {
            likely(new Random(1000 + run));
        }
        System.out.println(wrong == 0 ? "no call throws, none hangs on questions" : wrong + " answers hang on questions");
        if (wrong != 0) {
            System.exit(1);
        }
    }

    private static void wild(Random random) {
        CrossDawn x = new CrossDawn();
        for (int i = 0; i < 512; i++) {
            int[] call = {random.nextInt(CALLS), wild(random, i), wild(random, i), wild(random, i), wild(random, i),
                wild(random, i)};
            answer(x, call);
        }
    }

    private static int wild(Random random, int i) {
        switch (random.nextInt(4)) {
            case 0:
                return random.nextInt();
            case 1:
                return EDGES[random.nextInt(EDGES.length)];
            default:
                return random.nextInt(i % 7 + 2);
        }
    }

    private static void likely(Random random) {
        CrossDawn x = new CrossDawn();
        List<int[]> changes = new ArrayList<>();
        for (int i = 0; i < 500; i++) {
            int sort = i < 30 ? random.nextInt(2) : random.nextInt(CALLS);
            int[] call = {sort, random.nextInt(6), random.nextInt(6), random.nextInt(6), random.nextInt(6),
                random.nextInt(6)};
            if (sort == 4) {
                feed(call, TEXTS[random.nextInt(TEXTS.length)]);
            }
            int got = answer(x, call);
            if (sort < CHANGES) {
                changes.add(call);
                continue;
            }
            CrossDawn fresh = new CrossDawn();
            for (int[] change : changes) {
                answer(fresh, change);
            }
            int want = answer(fresh, call);
            if (got != want) {
                wrong++;
                System.out.println("call " + java.util.Arrays.toString(call) + " answered " + got + ", a new object " + want);
            }
        }
    }

    private static void feed(int[] call, String text) {
        for (int j = 0; j < 20; j++) {
            call[1 + j / 4] = call[1 + j / 4] << 8 | text.charAt(j);
        }
    }

    /** The first thirteen change something, the others only ask. */
    private static int answer(CrossDawn x, int[] c) {
        switch (c[0]) {
            case 0: return x.crossing();
            case 1: return x.street(c[1], c[2], c[3], (c[4] & 1) == 0);
            case 2: return x.hour(c[1]) ? 1 : 0;
            case 3: return x.corners(c[1], c[2]) ? 1 : 0;
            case 4: return x.feed(c[1], c[2], c[3], c[4], c[5]);
            case 5: return c[2] == 0 ? x.end(c[1]) : 0;
            case 6: return x.acts();
            case 7: return x.sign(c[1], c[2]);
            case 8: return x.crew(c[1]);
            case 9: return x.later(c[1]);
            case 10: return x.tell(c[1], c[2] - 2, c[3]);
            case 11: return c[2] == 0 && x.untell(c[1]) ? 1 : 0;
            case 12: return x.end(0);
            case 13: return x.turn(c[1], c[2], c[3], c[4]);
            case 14: return x.fault(c[1]);
            case 15: return x.may(c[1], c[2], c[3]);
            case 16: return x.speed(c[1], c[2], c[3]);
            case 17: return x.fastest(c[1], c[2], c[3], c[4]);
            case 18: return x.streets(c[1], c[2], c[3], c[4]);
            case 19: return x.walk(c[1], c[2]);
            case 20: return x.done();
            case 21: return x.order(c[1], c[2]);
            case 22: return x.harms(c[1], c[2] - 2, c[3], c[4]);
            default: return (c[5] & 1) == 0 ? x.differ(c[1], c[2], c[3]) : x.about(c[1]);
        }
    }
}
