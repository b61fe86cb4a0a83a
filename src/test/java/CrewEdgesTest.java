/** Promises 15 to 19, and part 3 of the terms: each sentence that names a boundary. */
public final class CrewEdgesTest extends Due {
    public static void main(String[] args) {
        signs8();
        signCrossings();
        works1To60();
        crews3();
        crewCrossings();
        walkCrossings();
        walkToItself();
        noWalk();
        eitherWayOfAnyStreet();
        leastSum();
        doneWithoutSigns();
        noCrew();
        noneLeadsToASign();
        mostWork();
        oneBehindTheOther();
        leastOfAllShares();
        leastCrews();
        firstByNumbers();
        ordersThatAreNone();
        noOrder();
        orderOfWhatChanged();
        finish();
    }

    private static void signs8() {
        sentence("15: A SIGN: its number; NONE, doing nothing, if .. there are 8");
        CrossDawn x = town(2);
        x.crew(0);
        for (int i = 0; i < 8; i++) {
            due("sign " + i, x.sign(0, 1), i);
        }
        due("a ninth", x.sign(0, 60), NONE);
        due("a ninth, to which none leads", x.sign(1, 1), NONE);
        due("about(4)", x.about(4), 8);
        due("done()", x.done(), 8);
        due("order of the eighth", x.order(7, 2), 8);
        due("order of a ninth", x.order(8, 0), NONE);
        doesNothing(Due::fullLand, y -> due("a ninth", y.sign(0, 60), NONE));
    }

    private static void signCrossings() {
        sentence("15: NONE, doing nothing, if it can't be (SIGNS stand at CROSSINGS)");
        CrossDawn x = town(3);
        x.crew(0);
        int[] none = {LOWEST, -1, 3, 8, HIGHEST};
        for (int crossing : none) {
            due("sign(" + crossing + ", 1)", x.sign(crossing, 1), NONE);
        }
        due("about(4)", x.about(4), 0);
        due("done()", x.done(), 0);
        due("at the first", x.sign(0, 1), 0);
        due("at the last", x.sign(2, 1), 1);
        doesNothing(Due::land, y -> {
            due("sign(-1, 60)", y.sign(-1, 60), NONE);
            due("sign(8, 60)", y.sign(8, 60), NONE);
        });
    }

    private static void works1To60() {
        sentence("SIGNS .. each taking WORK minutes (1 .. 60)");
        CrossDawn x = town(1);
        x.crew(0);
        int[] none = {LOWEST, -1, 0, 61, HIGHEST};
        for (int work : none) {
            due("sign(0, " + work + ")", x.sign(0, work), NONE);
        }
        due("about(4)", x.about(4), 0);
        due("done()", x.done(), 0);
        due("work 1", x.sign(0, 1), 0);
        due("done()", x.done(), 1);
        due("work 60", x.sign(0, 60), 1);
        due("done()", x.done(), 61);
        doesNothing(Due::land, y -> {
            due("work 0", y.sign(0, 0), NONE);
            due("work -1", y.sign(0, -1), NONE);
            due("work 61", y.sign(0, 61), NONE);
        });
    }

    private static void crews3() {
        sentence("16: A CREW: its number; NONE, doing nothing, if .. there are 3");
        CrossDawn x = town(1);
        for (int i = 0; i < 4; i++) {
            x.sign(0, 10);
        }
        for (int i = 0; i < 3; i++) {
            due("crew " + i, x.crew(0), i);
        }
        due("done()", x.done(), 20);
        due("a fourth", x.crew(0), NONE);
        due("about(5)", x.about(5), 3);
        due("done()", x.done(), 20);
        doesNothing(Due::fullLand, y -> due("a fourth", y.crew(0), NONE));
    }

    private static void crewCrossings() {
        sentence("16: NONE, doing nothing, if it can't be (CREWS begin at CROSSINGS)");
        CrossDawn x = town(3);
        x.sign(0, 5);
        int[] none = {LOWEST, -1, 3, 8, HIGHEST};
        for (int crossing : none) {
            due("crew(" + crossing + ")", x.crew(crossing), NONE);
        }
        due("about(5)", x.about(5), 0);
        due("done()", x.done(), NONE);
        due("at the last", x.crew(2), 0);
        due("at the first", x.crew(0), 1);
        doesNothing(Due::land, y -> {
            due("crew(-1)", y.crew(-1), NONE);
            due("crew(8)", y.crew(8), NONE);
        });
    }

    private static void walkCrossings() {
        sentence("17: NONE if .. one is none");
        CrossDawn x = chain(3, 5, true);
        int[] none = {LOWEST, -1, 3, 8, HIGHEST};
        for (int crossing : none) {
            due("walk(" + crossing + ", 0)", x.walk(crossing, 0), NONE);
            due("walk(0, " + crossing + ")", x.walk(0, crossing), NONE);
            due("walk of " + crossing + " to itself", x.walk(crossing, crossing), NONE);
        }
        due("from the first to the last", x.walk(0, 2), 10);
        due("from the last to the first", x.walk(2, 0), 10);
    }

    private static void walkToItself() {
        sentence("17: The least sum of LENGTHS (none, from one to itself)");
        CrossDawn x = chain(8, 5, true);
        CrossDawn y = town(8);
        for (int crossing = 0; crossing < 8; crossing++) {
            due("walk of " + crossing + " to itself", x.walk(crossing, crossing), 0);
            due("walk of " + crossing + " without streets", y.walk(crossing, crossing), 0);
        }
    }

    private static void noWalk() {
        sentence("17: NONE if none leads there");
        CrossDawn x = town(4);
        due("without streets", x.walk(0, 1), NONE);
        x.street(0, 1, 5, true);
        x.street(2, 3, 5, true);
        for (int a = 0; a < 2; a++) {
            for (int b = 2; b < 4; b++) {
                due("walk(" + a + ", " + b + ")", x.walk(a, b), NONE);
                due("walk(" + b + ", " + a + ")", x.walk(b, a), NONE);
            }
        }
        x.street(1, 2, 7, true);
        due("now one leads there", x.walk(0, 3), 17);
        due("now one leads there", x.walk(3, 0), 17);
        due("to one told later", x.walk(0, x.crossing()), NONE);
    }

    private static void eitherWayOfAnyStreet() {
        sentence("on foot, either way of any STREET");
        CrossDawn x = chain(3, 5, false);
        x.sign(2, 1);
        x.crew(0);
        String[] texts = {"", "not all;", "limit 1;", "limit 20;"};
        int[] hours = {0, 1439};
        for (String text : texts) {
            for (int hour : hours) {
                read(x, text);
                x.hour(hour);
                due("there", x.walk(0, 2), 10);
                due("back", x.walk(2, 0), 10);
                due("done()", x.done(), 11);
            }
        }
        x.corners(9, 9);
        due("without turns", x.walk(0, 2), 10);
    }

    private static void leastSum() {
        sentence("goes by the least sum of LENGTHS");
        CrossDawn x = chain(8, 60, true);
        due("the longest", x.walk(0, 7), 420);
        x.street(0, 7, 60, true);
        due("about the other side", x.walk(0, 7), 60);
        due("as far on both sides", x.walk(0, 4), 240);
        due("about the other side", x.walk(0, 5), 180);
        x.street(4, 0, 1, false);
        due("over a short one", x.walk(0, 4), 1);
        due("over a short one", x.walk(3, 7), 121);
        x.street(4, 0, 2, true);
        due("a longer one besides changes nothing", x.walk(0, 4), 1);
    }

    private static void doneWithoutSigns() {
        sentence("18: (0 without SIGNS.)");
        CrossDawn x = new CrossDawn();
        due("without all", x.done(), 0);
        x.crossing();
        due("without crews", x.done(), 0);
        x.crew(0);
        due("with a crew", x.done(), 0);
        x.crew(0);
        x.crew(0);
        due("with three", x.done(), 0);
        due("order()", x.order(0, 0), NONE);
    }

    private static void noCrew() {
        sentence("18: NONE if it can't be (no CREW, with SIGNS");
        CrossDawn x = town(1);
        for (int i = 0; i < 8; i++) {
            x.sign(0, 1);
            due("done() of " + (i + 1) + " signs", x.done(), NONE);
        }
        x.crew(0);
        due("with a crew", x.done(), 8);
    }

    private static void noneLeadsToASign() {
        sentence("18: NONE if it can't be (.. a SIGN to which none leads)");
        CrossDawn x = town(3);
        x.crew(0);
        x.sign(0, 5);
        due("where it begins", x.done(), 5);
        x.sign(1, 5);
        due("where none leads", x.done(), NONE);
        due("order of the other one", x.order(0, 0), NONE);
        x.crew(2);
        due("nor from the second", x.done(), NONE);
        x.street(1, 2, 60, true);
        due("from the second alone", x.done(), 65);
        due("by the second", x.order(1, 0), 1);
        due("by the first", x.order(0, 0), 0);
        x.sign(0, 60);
        due("from the first alone", x.done(), 65);
    }

    private static void mostWork() {
        sentence("DONE is the least number of minutes (at most so many)");
        CrossDawn x = chain(8, 60, true);
        x.crew(0);
        for (int i = 0; i < 8; i++) {
            x.sign(i, 60);
        }
        due("by one crew", x.done(), 7 * 60 + 8 * 60);
        due("the last sign", x.order(7, 2), 900);
        due("its place", x.order(7, 1), 7);
        CrossDawn y = chain(8, 60, true);
        y.crew(3);
        for (int i = 0; i < 8; i++) {
            y.sign(i % 2 * 7, 60);
        }
        due("both ends, from between", y.done(), 3 * 60 + 7 * 60 + 8 * 60);
        due("the nearer end first", y.order(0, 2), 240);
    }

    private static void oneBehindTheOther() {
        sentence("Each SIGN is done by one CREW, one behind the other");
        CrossDawn x = chain(3, 10, true);
        x.crew(0);
        x.crew(0);
        x.sign(2, 30);
        due("not by two", x.done(), 50);
        x.sign(1, 5);
        x.sign(1, 6);
        due("done()", x.done(), 50);
        due("crew of 0", x.order(0, 0), 0);
        due("crew of 1", x.order(1, 0), 1);
        due("crew of 2", x.order(2, 0), 1);
        due("minute of 1", x.order(1, 2), 15);
        due("minute of 2, behind 1", x.order(2, 2), 21);
        due("none ahead of 1", x.order(1, 1), 0);
        due("one ahead of 2", x.order(2, 1), 1);
    }

    private static void leastOfAllShares() {
        sentence("DONE is the least number of minutes in which all can be turned");
        CrossDawn x = town(1);
        int[] works = {30, 31, 32, 33, 34, 35, 36, 60};
        for (int work : works) {
            x.sign(0, work);
        }
        x.crew(0);
        due("by one", x.done(), 291);
        x.crew(0);
        due("by two, of which one turns that of 60 and three more", x.done(), 153);
        x.crew(0);
        due("by three, of which two turn three", x.done(), 98);
    }

    private static void leastCrews() {
        sentence("the first of those that take so long: by the CREWS of SIGN 0, 1, .. (the least numbers)");
        CrossDawn x = town(1);
        for (int i = 0; i < 3; i++) {
            x.crew(0);
        }
        int[] works = {10, 10, 10, 20, 5, 5, 10, 20};
        int[] crews = {0, 0, 0, 1, 1, 1, 2, 2};
        for (int work : works) {
            x.sign(0, work);
        }
        due("done()", x.done(), 30);
        for (int sign = 0; sign < 8; sign++) {
            due("crew of " + sign, x.order(sign, 0), crews[sign]);
        }
        // All by crew 0, if another leaves nothing to be done sooner by crew 1.
        CrossDawn y = chain(2, 60, true);
        y.crew(0);
        y.crew(1);
        y.sign(0, 1);
        y.sign(0, 1);
        y.sign(1, 60);
        due("done()", y.done(), 60);
        due("crew of 0", y.order(0, 0), 0);
        due("crew of 1", y.order(1, 0), 0);
        due("crew of 2", y.order(2, 0), 1);
    }

    private static void firstByNumbers() {
        sentence("its SIGNS in an order by which it is done soonest, of like ones the first by numbers");
        CrossDawn x = town(1);
        x.crew(0);
        for (int i = 0; i < 8; i++) {
            x.sign(0, 60 - i);
        }
        for (int i = 0; i < 8; i++) {
            due("ahead of " + i, x.order(i, 1), i);
        }
        // A ring of three: either way round is as soon.
        CrossDawn y = town(3);
        y.street(0, 1, 5, true);
        y.street(1, 2, 5, true);
        y.street(2, 0, 5, true);
        y.crew(0);
        y.sign(2, 7);
        y.sign(1, 9);
        due("done()", y.done(), 26);
        due("sign 0 first", y.order(0, 2), 12);
        due("sign 1 behind it", y.order(1, 2), 26);
        // The first by numbers is not first where it is done later by it.
        CrossDawn z = chain(3, 5, true);
        z.crew(0);
        z.sign(2, 7);
        z.sign(1, 9);
        due("done()", z.done(), 26);
        due("sign 1 on the way", z.order(1, 2), 14);
        due("sign 0 behind it", z.order(0, 2), 26);
        // A crew that is done long ahead of the last one takes its soonest order, too.
        z.crew(0);
        z.sign(0, 60);
        due("done()", z.done(), 60);
        due("crew of 0", z.order(0, 0), 0);
        due("crew of 1", z.order(1, 0), 0);
        due("crew of 2", z.order(2, 0), 1);
        due("sign 1 on the way", z.order(1, 2), 14);
        due("sign 0 behind it", z.order(0, 2), 26);
    }

    private static void ordersThatAreNone() {
        sentence("19: NONE if there is none such");
        CrossDawn x = town(1);
        x.crew(0);
        x.sign(0, 5);
        x.sign(0, 6);
        int[] signs = {LOWEST, -1, 2, 8, HIGHEST};
        for (int sign : signs) {
            for (int what = 0; what <= 2; what++) {
                due("order(" + sign + ", " + what + ")", x.order(sign, what), NONE);
            }
        }
        int[] whats = {LOWEST, -1, 3, HIGHEST};
        for (int what : whats) {
            due("order(0, " + what + ")", x.order(0, what), NONE);
            due("order(1, " + what + ")", x.order(1, what), NONE);
        }
        int[] last = {0, 1, 11};
        for (int what = 0; what <= 2; what++) {
            due("order(1, " + what + ")", x.order(1, what), last[what]);
        }
    }

    private static void noOrder() {
        sentence("19: NONE if .. no ORDER");
        CrossDawn x = town(2);
        x.sign(0, 5);
        for (int what = 0; what <= 2; what++) {
            due("order(0, " + what + ") without a crew", x.order(0, what), NONE);
        }
        x.crew(1);
        for (int what = 0; what <= 2; what++) {
            due("order(0, " + what + ") where none leads", x.order(0, what), NONE);
        }
        x.crew(0);
        due("order(0, 0)", x.order(0, 0), 1);
        x.sign(1, 5);
        due("order(0, 0)", x.order(0, 0), 1);
        x.crossing();
        x.sign(2, 5);
        due("order(0, 0), with a sign where none leads", x.order(0, 0), NONE);
    }

    private static void orderOfWhatChanged() {
        sentence("18, 19: as all is when it is asked");
        CrossDawn x = chain(2, 40, true);
        x.crew(0);
        x.sign(1, 5);
        due("done()", x.done(), 45);
        x.street(1, 0, 30, true);
        due("behind street()", x.done(), 35);
        due("behind street()", x.order(0, 2), 35);
        x.crew(1);
        due("behind crew()", x.order(0, 0), 1);
        due("behind crew()", x.done(), 5);
        x.sign(1, 6);
        due("behind sign()", x.order(1, 2), 11);
        due("behind sign()", x.done(), 11);
    }
}
