/** Promises 1 to 6 and 25, and part 1 of the terms: each sentence that names a boundary. */
public final class TownEdgesTest extends Due {
    public static void main(String[] args) {
        noneIsMinus1();
        atFirst();
        objectsHaveTheirOwn();
        calls512();
        crossings8();
        crossingsOnlyOnceTold();
        streets16();
        streetEndsThatCantBe();
        streetToItself();
        lengths1To60();
        bothDirections();
        oneDirection();
        hours0To1439();
        hour300AtFirst();
        leftAheadRightFromTheHour();
        turnMinutesFrom0On();
        backIsNoTurn();
        turnsThatAreNone();
        nearOnTheLeft();
        nearOnTheRight();
        roundAndRound();
        orderAsTold();
        aroundEachCrossing();
        nearsAndFars0To9();
        nearsAndFarsAtFirst();
        abouts0To8();
        finish();
    }

    private static void noneIsMinus1() {
        sentence("NONE = -1: There is none");
        due("NONE", CrossDawn.NONE, -1);
    }

    private static void atFirst() {
        sentence("1: No CROSSINGS, no ACTS; DAY 0");
        CrossDawn x = new CrossDawn();
        int[] abouts = {0, 0, 300, 0, 0, 0, 0, 0, 0};
        for (int what = 0; what <= 8; what++) {
            due("about(" + what + ")", x.about(what), abouts[what]);
        }
        due("walk(0, 0)", x.walk(0, 0), NONE);
        due("fastest(0, 0, 0, 0)", x.fastest(0, 0, 0, 0), NONE);
        due("streets(0, 0, 0, 0)", x.streets(0, 0, 0, 0), NONE);
        due("street(0, 1, 1, true)", x.street(0, 1, 1, true), NONE);
        due("turn(0, 0, 1, 0)", x.turn(0, 0, 1, 0), NONE);
        due("may(0, 0, 0)", x.may(0, 0, 0), NONE);
        due("speed(0, 0, 0)", x.speed(0, 0, 0), NONE);
        due("sign(0, 1)", x.sign(0, 1), NONE);
        due("crew(0)", x.crew(0), NONE);
        due("order(0, 0)", x.order(0, 0), NONE);
        due("untell(0)", x.untell(0), false);
        due("harms(0, -50, 50, 0)", x.harms(0, -50, 50, 0), 0);
        due("differ(0, 1, 0)", x.differ(0, 1, 0), 0);
        due("later(0)", x.later(0), 0);
    }

    private static void objectsHaveTheirOwn() {
        sentence("1: a new object is empty, whatever others hold");
        CrossDawn x = fullLand();
        CrossDawn y = new CrossDawn();
        due("about(0) of the other", y.about(0), 0);
        due("crossing() of the other", y.crossing(), 0);
        due("feed() of the other", feed(y, ""), 20);
        due("tell() of the other", y.tell(0, 0, 0), 0);
        due("about(8) of the first", x.about(8), 800);
    }

    private static void calls512() {
        sentence("An object is used for at most 512 calls after it has been made");
        CrossDawn x = chain(3, 6, true);
        for (int i = 0; i < 506; i++) {
            due("call " + (i + 6), x.fastest(i % 4, 0, 2, i), 24);
        }
        due("call 512", x.fastest(0, 0, 2, 1439), 24);
    }

    private static void crossings8() {
        sentence("2: A CROSSING: its number; NONE: there are 8");
        CrossDawn x = new CrossDawn();
        for (int i = 0; i < 8; i++) {
            due("crossing " + i, x.crossing(), i);
        }
        due("a ninth", x.crossing(), NONE);
        due("a tenth", x.crossing(), NONE);
        due("about(0)", x.about(0), 8);
        due("crew at the eighth", x.crew(7), 0);
        due("crew at the ninth", x.crew(8), NONE);
        doesNothing(Due::fullLand, y -> due("a ninth", y.crossing(), NONE));
    }

    private static void crossingsOnlyOnceTold() {
        sentence("2: a CROSSING's number is one from when it is told on");
        CrossDawn x = new CrossDawn();
        for (int i = 0; i < 8; i++) {
            due("walk to " + i + ", not yet told", x.walk(0, i), NONE);
            due("street to " + i + ", not yet told", x.street(0, i, 1, true), NONE);
            due("sign at " + i + ", not yet told", x.sign(i, 1), NONE);
            due("crossing", x.crossing(), i);
            due("walk to " + i, x.walk(i, i), 0);
            due("sign at " + i, x.sign(i, 1), i);
        }
    }

    private static void streets16() {
        sentence("3: A STREET: its number; NONE, doing nothing, if .. there are 16");
        CrossDawn x = town(3);
        for (int i = 0; i < 16; i++) {
            due("street " + i, x.street(i % 2, 2, 30, true), i);
        }
        due("a 17th", x.street(0, 1, 1, true), NONE);
        due("about(1)", x.about(1), 16);
        due("may on the 16th", x.may(0, 15, 0), 1);
        due("may on a 17th", x.may(0, 16, 0), NONE);
        due("speed on a 17th", x.speed(0, 16, 0), NONE);
        due("turn into a 17th", x.turn(0, 0, 16, 0), NONE);
        due("walk as without it", x.walk(0, 1), 60);
        due("drive as without it", x.streets(0, 0, 1, 0), 2);
        doesNothing(Due::fullLand, y -> {
            due("a 17th", y.street(1, 2, 1, true), NONE);
            due("a 17th", y.street(7, 0, 1, false), NONE);
        });
    }

    private static void streetEndsThatCantBe() {
        sentence("3: NONE, doing nothing, if it can't be (of a CROSSING that is none)");
        CrossDawn x = town(2);
        int[] none = {LOWEST, -1, 2, 7, 8, HIGHEST};
        for (int crossing : none) {
            due("from " + crossing, x.street(crossing, 1, 1, true), NONE);
            due("to " + crossing, x.street(0, crossing, 1, true), NONE);
            due("from and to " + crossing, x.street(crossing, crossing, 1, true), NONE);
        }
        due("about(1)", x.about(1), 0);
        due("walk(0, 1)", x.walk(0, 1), NONE);
        due("from the first to the last", x.street(0, 1, 1, true), 0);
        due("from the last to the first", x.street(1, 0, 1, true), 1);
        doesNothing(Due::land, y -> {
            due("from -1", y.street(-1, 1, 1, true), NONE);
            due("from 8", y.street(8, 1, 1, true), NONE);
            due("to -1", y.street(1, -1, 1, true), NONE);
            due("to 8", y.street(1, 8, 1, true), NONE);
        });
    }

    private static void streetToItself() {
        sentence("STREETS .. between two different ones");
        CrossDawn x = town(8);
        for (int i = 0; i < 8; i++) {
            due("street from " + i + " to itself", x.street(i, i, 5, true), NONE);
        }
        due("about(1)", x.about(1), 0);
        due("two besides each other", x.street(3, 4, 5, true), 0);
        due("two besides each other", x.street(3, 4, 5, true), 1);
        doesNothing(Due::land, y -> due("to itself", y.street(0, 0, 1, true), NONE));
    }

    private static void lengths1To60() {
        sentence("of LENGTH 1 .. 60");
        CrossDawn x = town(3);
        int[] none = {LOWEST, -60, -1, 0, 61, HIGHEST};
        for (int length : none) {
            due("length " + length, x.street(0, 1, length, true), NONE);
        }
        due("about(1)", x.about(1), 0);
        due("walk(0, 1)", x.walk(0, 1), NONE);
        due("length 1", x.street(0, 1, 1, true), 0);
        due("length 60", x.street(1, 2, 60, true), 1);
        due("walk of 1", x.walk(0, 1), 1);
        due("walk of 60", x.walk(1, 2), 60);
        doesNothing(Due::land, y -> {
            due("length 0", y.street(1, 2, 0, true), NONE);
            due("length -1", y.street(1, 2, -1, true), NONE);
            due("length 61", y.street(0, 2, 61, true), NONE);
        });
    }

    private static void bothDirections() {
        sentence("for both directions");
        CrossDawn x = chain(2, 5, true);
        for (int minute = 299; minute <= 300; minute++) {
            due("there in " + minute, x.fastest(0, 0, 1, minute), 10);
            due("back in " + minute, x.fastest(0, 1, 0, minute), 10);
        }
    }

    private static void oneDirection() {
        sentence("or one (from the first to the second; behind the HOUR from the second to the first)");
        CrossDawn x = chain(2, 5, false);
        int[] hours = {300, 1, 1439};
        for (int hour : hours) {
            x.hour(hour);
            due("there just ahead of " + hour, x.fastest(0, 0, 1, hour - 1), 10);
            due("back just ahead of " + hour, x.fastest(0, 1, 0, hour - 1), NONE);
            due("there in " + hour, x.fastest(0, 0, 1, hour), NONE);
            due("back in " + hour, x.fastest(0, 1, 0, hour), 10);
        }
        x.hour(0);
        due("there, with the hour 0", x.fastest(0, 0, 1, 0), NONE);
        due("back, with the hour 0", x.fastest(0, 1, 0, 0), 10);
    }

    private static void hours0To1439() {
        sentence("4: The HOUR (0 .. 1439): true; false, doing nothing, if it can't be");
        CrossDawn x = new CrossDawn();
        int[] none = {LOWEST, -300, -1, 1440, HIGHEST};
        for (int minute : none) {
            due("hour(" + minute + ")", x.hour(minute), false);
            due("about(2)", x.about(2), 300);
        }
        int[] some = {1439, 0, 1, 1438};
        for (int minute : some) {
            due("hour(" + minute + ")", x.hour(minute), true);
            due("about(2)", x.about(2), minute);
        }
        doesNothing(Due::land, y -> {
            due("hour(-1)", y.hour(-1), false);
            due("hour(1440)", y.hour(1440), false);
        });
    }

    private static void hour300AtFirst() {
        sentence("The HOUR is a minute (0 .. 1439; 300 at first)");
        CrossDawn x = star(3);
        due("about(2)", x.about(2), 300);
        due("turn in 299", x.turn(0, 0, 1, 299), 0);
        due("turn in 300", x.turn(0, 0, 1, 300), 2);
    }

    private static void leftAheadRightFromTheHour() {
        sentence("ahead of it one drives on the left, from it on on the right");
        CrossDawn x = star(3);
        int[] hours = {1, 2, 720, 1438, 1439};
        for (int hour : hours) {
            x.hour(hour);
            due("turn in 0", x.turn(0, 0, 1, 0), 0);
            due("turn just ahead of " + hour, x.turn(0, 0, 1, hour - 1), 0);
            due("turn in " + hour, x.turn(0, 0, 1, hour), 2);
            due("turn in 1440", x.turn(0, 0, 1, 1440), 2);
        }
        x.hour(0);
        due("turn in 0 with the hour 0", x.turn(0, 0, 1, 0), 2);
    }

    private static void turnMinutesFrom0On() {
        sentence("6: in a minute (from 0 on)");
        CrossDawn x = star(3);
        due("in the lowest", x.turn(0, 0, 1, LOWEST), NONE);
        due("in -1", x.turn(0, 0, 1, -1), NONE);
        due("in 0", x.turn(0, 0, 1, 0), 0);
        due("in 1439", x.turn(0, 0, 1, 1439), 2);
        due("in 1440", x.turn(0, 0, 1, 1440), 2);
        due("in 3001", x.turn(0, 0, 1, 3001), 2);
        due("in the highest", x.turn(0, 0, 1, HIGHEST), 2);
    }

    private static void backIsNoTurn() {
        sentence("going back by the same STREET is no TURN");
        for (int n = 1; n <= 16; n += 5) {
            CrossDawn x = star(n);
            for (int street = 0; street < n; street++) {
                due("back by " + street + " of " + n, x.turn(0, street, street, 0), NONE);
                due("back by " + street + " of " + n, x.turn(0, street, street, 300), NONE);
            }
        }
        CrossDawn x = town(2);
        x.street(0, 1, 5, true);
        x.street(0, 1, 5, true);
        due("back by the one besides", x.turn(1, 0, 1, 0), 0);
    }

    private static void turnsThatAreNone() {
        sentence("6: NONE if there is none such");
        CrossDawn x = chain(4, 5, true);
        due("at 1 from 0 to 1", x.turn(1, 0, 1, 0), 0);
        due("at 2 from 2 to 1", x.turn(2, 2, 1, 0), 0);
        int[] crossings = {LOWEST, -1, 0, 2, 3, 4, 8, HIGHEST};
        for (int crossing : crossings) {
            due("at " + crossing, x.turn(crossing, 0, 1, 0), NONE);
        }
        int[] streets = {LOWEST, -1, 2, 3, 16, HIGHEST};
        for (int street : streets) {
            due("from " + street, x.turn(1, street, 1, 0), NONE);
            due("to " + street, x.turn(1, 0, street, 0), NONE);
        }
    }

    private static void nearOnTheLeft() {
        sentence("On the left a TURN with k = 1 is NEAR .. other TURNS are FAR");
        everyTurn(299, 1);
    }

    private static void nearOnTheRight() {
        sentence("on the right one with k = n - 1; other TURNS are FAR");
        everyTurn(300, -1);
    }

    /** With every number of streets; a near turn goes so much further round, or back. */
    private static void everyTurn(int minute, int nearStep) {
        for (int n = 2; n <= 16; n++) {
            CrossDawn x = star(n);
            x.corners(3, 7);
            for (int i = 0; i < n; i++) {
                int near = (i + nearStep + n) % n;
                for (int j = 0; j < n; j++) {
                    int want = i == j ? NONE : j == near ? 3 : 7;
                    due("turn from " + i + " to " + j + " of " + n, x.turn(0, i, j, minute), want);
                }
            }
        }
    }

    private static void roundAndRound() {
        sentence("round and round: behind the last STREET comes the first");
        CrossDawn x = star(3);
        due("last to first of 3, on the left", x.turn(0, 2, 0, 0), 0);
        due("first to last of 3, on the left", x.turn(0, 0, 2, 0), 2);
        due("first to last of 3, on the right", x.turn(0, 0, 2, 300), 0);
        due("last to first of 3, on the right", x.turn(0, 2, 0, 300), 2);
        x.street(0, 4, 5, true);
        due("third to first of 4, on the left", x.turn(0, 2, 0, 0), 2);
        due("last to first of 4, on the left", x.turn(0, 3, 0, 0), 0);
        due("first to third of 4, on the right", x.turn(0, 0, 2, 300), 2);
        due("first to last of 4, on the right", x.turn(0, 0, 3, 300), 0);
    }

    private static void orderAsTold() {
        sentence("Around a CROSSING its STREETS lie in the order in which they were told");
        CrossDawn x = town(4);
        x.street(1, 2, 5, true);
        x.street(3, 0, 5, true);
        x.street(0, 1, 5, false);
        x.street(2, 3, 5, true);
        x.street(2, 0, 5, true);
        due("around 0, from the first to the second", x.turn(0, 1, 2, 0), 0);
        due("around 0, from the second to the third", x.turn(0, 2, 4, 0), 0);
        due("around 0, from the third to the first", x.turn(0, 4, 1, 0), 0);
        due("around 0, from the first to the third", x.turn(0, 1, 4, 0), 2);
        due("around 2, from the first to the second", x.turn(2, 0, 3, 0), 0);
        due("around 2, from the third to the first", x.turn(2, 4, 0, 0), 0);
        due("around 2, from the second to the first", x.turn(2, 3, 0, 0), 2);
    }

    private static void aroundEachCrossing() {
        sentence("its STREETS: those of other CROSSINGS are not among them");
        CrossDawn x = town(8);
        for (int i = 0; i < 8; i++) {
            x.street(i, (i + 1) % 8, 5, true);
        }
        for (int i = 0; i < 8; i++) {
            int before = (i + 7) % 8;
            due("the only two at " + i + ", on the left", x.turn(i, before, i, 299), 0);
            due("the only two at " + i + ", on the right", x.turn(i, before, i, 300), 0);
            due("another at " + i, x.turn(i, before, (i + 1) % 8, 0), NONE);
        }
    }

    private static void nearsAndFars0To9() {
        sentence("5: NEAR (0 .. 9) and FAR (0 .. 9): true; false, doing nothing, if they can't be");
        CrossDawn x = star(3);
        int[] none = {LOWEST, -1, 10, HIGHEST};
        for (int minutes : none) {
            due("near " + minutes, x.corners(minutes, 5), false);
            due("far " + minutes, x.corners(5, minutes), false);
            due("both " + minutes, x.corners(minutes, minutes), false);
            due("near as it was", x.turn(0, 0, 1, 0), 0);
            due("far as it was", x.turn(0, 0, 2, 0), 2);
        }
        int[][] some = {{0, 0}, {0, 9}, {9, 0}, {9, 9}, {1, 8}};
        for (int[] minutes : some) {
            due("corners", x.corners(minutes[0], minutes[1]), true);
            due("near", x.turn(0, 0, 1, 0), minutes[0]);
            due("far", x.turn(0, 0, 2, 0), minutes[1]);
        }
        doesNothing(Due::land, y -> {
            due("near -1", y.corners(-1, 5), false);
            due("near 10", y.corners(10, 5), false);
            due("far -1", y.corners(5, -1), false);
            due("far 10", y.corners(5, 10), false);
        });
    }

    private static void nearsAndFarsAtFirst() {
        sentence("NEAR minutes (0 .. 9; 0 at first) .. FAR minutes (0 .. 9; 2 at first)");
        CrossDawn x = star(3);
        due("near", x.turn(0, 0, 1, 0), 0);
        due("far", x.turn(0, 0, 2, 0), 2);
        due("near on a way", x.fastest(0, 1, 2, 0), 10);
        due("far on a way", x.fastest(0, 1, 3, 0), 14);
    }

    private static void abouts0To8() {
        sentence("25: What 0 .. 8; NONE for another what");
        CrossDawn x = star(6);
        x.hour(5);
        read(x, "may all;".repeat(4));
        for (int i = 0; i < 3; i++) {
            x.sign(0, 1);
            x.tell(0, 0, 0);
        }
        x.crew(0);
        x.crew(0);
        x.later(1);
        feed(x, "");
        x.end(19);
        int[] want = {8, 6, 5, 4, 3, 2, 1, 3, 19};
        for (int what = 0; what <= 8; what++) {
            due("about(" + what + ")", x.about(what), want[what]);
        }
        int[] none = {LOWEST, -1, 9, HIGHEST};
        for (int what : none) {
            due("about(" + what + ")", x.about(what), NONE);
        }
    }
}
