import java.util.ArrayList;
import java.util.List;
import java.util.function.Consumer;
import java.util.function.Supplier;

/** What tests have in common: answers held against those that are due, texts, and lands. */
abstract class Due {
    static final int NONE = -1;
    static final int LOWEST = Integer.MIN_VALUE;
    static final int HIGHEST = Integer.MAX_VALUE;

    private static String sentence = "";
    private static int asked = 0;
    private static int wrong = 0;

    /** The document's words that the answers from here on are held against. */
    static void sentence(String words) {
        sentence = words;
    }

    static void due(String call, Object got, Object want) {
        asked++;
        if (!got.equals(want)) {
            wrong++;
            System.out.println((sentence.isEmpty() ? "" : "'" + sentence + "': ") + call + ": answered " + got
                + ", due is " + want);
        }
    }

    static void finish() {
        System.out.println(wrong == 0 ? "all " + asked + " answers are as due" : wrong + " answers are wrong");
        if (wrong != 0) {
            System.exit(1);
        }
    }

    static CrossDawn town(int crossings) {
        CrossDawn x = new CrossDawn();
        for (int i = 0; i < crossings; i++) {
            x.crossing();
        }
        return x;
    }

    /** Crossings 0, 1, .. with a street of that length from each to the next. */
    static CrossDawn chain(int crossings, int length, boolean both) {
        CrossDawn x = town(crossings);
        for (int i = 0; i + 1 < crossings; i++) {
            x.street(i, i + 1, length, both);
        }
        return x;
    }

    /** Crossing 0 with so many streets around it, to the others by turns. */
    static CrossDawn star(int streets) {
        CrossDawn x = town(8);
        for (int i = 0; i < streets; i++) {
            x.street(0, 1 + i % 7, 2 + i, true);
        }
        return x;
    }

    /** Twenty bytes behind those on the tape; a shorter text is filled up with '?'. */
    static int feed(CrossDawn x, String text) {
        int[] n = new int[5];
        for (int i = 0; i < 20; i++) {
            n[i / 4] = n[i / 4] << 8 | (i < text.length() ? text.charAt(i) : '?');
        }
        return x.feed(n[0], n[1], n[2], n[3], n[4]);
    }

    /** Puts a text on the tape behind what is there. */
    static void put(CrossDawn x, String text) {
        int before = x.about(8);
        for (int i = 0; i < text.length(); i += 20) {
            feed(x, text.substring(i, Math.min(text.length(), i + 20)));
        }
        x.end(before + text.length());
    }

    static int read(CrossDawn x, String text) {
        put(x, text);
        return x.acts();
    }

    static void fault(String text, int kind, int place) {
        CrossDawn x = new CrossDawn();
        due("acts of '" + text + "'", read(x, text), NONE);
        due("fault of '" + text + "'", x.fault(0), kind);
        due("place of the fault of '" + text + "'", x.fault(1), place);
        due("tape behind '" + text + "'", x.about(8), 0);
        due("acts behind '" + text + "'", x.about(3), 0);
    }

    static void right(String text, int acts) {
        CrossDawn x = new CrossDawn();
        due("acts of '" + text + "'", read(x, text), acts);
        due("no fault in '" + text + "'", x.fault(0), 0);
        due("no place in '" + text + "'", x.fault(1), NONE);
        due("acts there are of '" + text + "'", x.about(3), acts);
        due("tape behind '" + text + "'", x.about(8), 0);
    }

    /** Some of everything, and room for more. */
    static CrossDawn land() {
        CrossDawn x = star(7);
        x.hour(400);
        x.corners(1, 4);
        read(x, "not bus on s1; limit 9 car; may car; limit 0");
        read(x, "not bus on s1; limit 9 car;");
        x.sign(1, 10);
        x.sign(2, 20);
        x.crew(3);
        x.crew(4);
        x.tell(0, -1, 5);
        x.tell(0, 0, 50);
        x.later(3);
        x.tell(0, 0, 6);
        x.untell(1);
        put(x, "may car; not");
        return x;
    }

    /** As much of everything as there may be. */
    static CrossDawn fullLand() {
        CrossDawn x = star(16);
        for (int i = 0; i < 8; i++) {
            x.sign(i, 10 + i);
        }
        for (int i = 0; i < 3; i++) {
            x.crew(2 * i);
        }
        for (int i = 0; i < 60; i++) {
            x.tell(i % 2, i / 2 - 15, 20 + i % 2 * i);
        }
        for (int i = 0; i < 40; i++) {
            feed(x, i < 20 ? "limit 7 car;        " : "                    ");
        }
        return x;
    }

    /** Makes calls that are to be refused; behind them all must be as if they had not been made. */
    static void doesNothing(Supplier<CrossDawn> land, Consumer<CrossDawn> refusedCalls) {
        CrossDawn x = land.get();
        refusedCalls.accept(x);
        due("what is seen behind refused calls", seen(x), seen(land.get()));
    }

    /** Answers to questions of every sort; some 180 calls, the last of which reads the tape. */
    private static List<Integer> seen(CrossDawn x) {
        List<Integer> seen = new ArrayList<>();
        for (int what = 0; what <= 8; what++) {
            seen.add(x.about(what));
        }
        seen.add(x.fault(0));
        seen.add(x.fault(1));
        seeTown(x, seen);
        seen.add(x.done());
        for (int i = 0; i < 24; i++) {
            seen.add(x.order(i / 3, i % 3));
        }
        for (int kind = 0; kind < 4; kind++) {
            seen.add(x.harms(kind, -50, 50, LOWEST));
            seen.add(x.harms(kind, -50, 50, 1));
            seen.add(x.harms(kind, -50, 50, HIGHEST));
            seen.add(x.differ(kind, 1, HIGHEST));
        }
        seen.add(x.acts());
        seen.add(x.fault(0));
        seen.add(x.fault(1));
        return seen;
    }

    private static void seeTown(CrossDawn x, List<Integer> seen) {
        int crossings = x.about(0);
        int streets = x.about(1);
        for (int a = 0; a < crossings; a++) {
            for (int b = 0; b < a; b++) {
                seen.add(x.walk(a, b));
            }
            seen.add(x.fastest(0, 0, a, 0));
            seen.add(x.fastest(0, a, 0, 1439));
            seen.add(x.streets(1, a, 1, 390));
        }
        for (int s = 0; s < streets; s++) {
            seen.add(x.turn(0, s, (s + 1) % streets, 0));
            seen.add(x.turn(0, s, (s + 1) % streets, 1439));
            seen.add(x.may(1, s, 0));
            seen.add(x.speed(0, s, 0));
        }
    }
}
