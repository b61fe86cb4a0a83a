/** Promises 11 to 14, and driving in part 2 of the terms: each sentence that names a boundary. */
public final class DriveEdgesTest extends Due {
    public static void main(String[] args) {
        kinds0To3();
        streetsThereAre();
        minutes0To1439();
        firstMOnUpToTheSecond();
        lastMayOrNot();
        elseItMay();
        lastLimit();
        elseFive();
        kindOrAll();
        streetOrNoneTold();
        allDayUnlessTold();
        roundedUp();
        mayWhenItEnters();
        speedWhenItEnters();
        sideWhenItEnters();
        turnByTheSideWhenItComes();
        entersBehindTheTurn();
        noWaiting();
        noWayBack();
        rounds();
        longestTurnAndStreet();
        minutes3000();
        streetsUpTo3000();
        asIn1439();
        hour1439();
        leastMinute();
        fewestStreets();
        oneToItself();
        noneLeadsThere();
        waysThatCantBe();
        waysOfWhatChanged();
        finish();
    }

    private static void kinds0To3() {
        sentence("11, 12: NONE if one can't be (KIND 0 car, 1 bus, 2 truck, 3 bike)");
        CrossDawn x = chain(2, 5, true);
        read(x, "limit 1 car; limit 2 bus; limit 3 truck; limit 4 bike; not bike;");
        int[] none = {LOWEST, -1, 4, 5, HIGHEST};
        for (int kind : none) {
            due("may(" + kind + ", 0, 0)", x.may(kind, 0, 0), NONE);
            due("speed(" + kind + ", 0, 0)", x.speed(kind, 0, 0), NONE);
        }
        for (int kind = 0; kind <= 3; kind++) {
            due("may(" + kind + ", 0, 0)", x.may(kind, 0, 0), kind == 3 ? 0 : 1);
            due("speed(" + kind + ", 0, 0)", x.speed(kind, 0, 0), kind + 1);
        }
    }

    private static void streetsThereAre() {
        sentence("11, 12: NONE if one can't be (STREET)");
        for (int n = 1; n <= 16; n += 5) {
            CrossDawn x = star(n);
            int[] none = {LOWEST, -1, n, HIGHEST};
            for (int street : none) {
                due("may(0, " + street + ", 0) of " + n, x.may(0, street, 0), NONE);
                due("speed(0, " + street + ", 0) of " + n, x.speed(0, street, 0), NONE);
            }
            due("may() on the first of " + n, x.may(0, 0, 0), 1);
            due("speed() on the first of " + n, x.speed(0, 0, 0), 5);
            due("may() on the last of " + n, x.may(0, n - 1, 0), 1);
            due("speed() on the last of " + n, x.speed(0, n - 1, 0), 5);
        }
    }

    private static void minutes0To1439() {
        sentence("11, 12: in a minute (0 .. 1439) .. NONE if one can't be");
        CrossDawn x = chain(2, 5, true);
        int[] none = {LOWEST, -1, 1440, 3000, HIGHEST};
        for (int minute : none) {
            due("may(0, 0, " + minute + ")", x.may(0, 0, minute), NONE);
            due("speed(0, 0, " + minute + ")", x.speed(0, 0, minute), NONE);
        }
        for (int minute = 0; minute <= 1439; minute += 1439) {
            due("may(0, 0, " + minute + ")", x.may(0, 0, minute), 1);
            due("speed(0, 0, " + minute + ")", x.speed(0, 0, minute), 5);
        }
    }

    private static void firstMOnUpToTheSecond() {
        sentence("from the first M on, up to the second, that not");
        CrossDawn x = chain(2, 5, true);
        int[][] spans = {{0, 1}, {0, 1440}, {10, 20}, {1438, 1439}, {1439, 1440}};
        for (int[] span : spans) {
            String times = " from " + span[0] + " to " + span[1] + ";";
            due("acts()", read(x, "not all" + times + "limit 7" + times), 2);
            int[] minutes = {0, span[0] - 1, span[0], span[1] - 1, span[1], 1439};
            for (int minute : minutes) {
                boolean day = minute >= 0 && minute < 1440;
                boolean in = minute >= span[0] && minute < span[1];
                due("may in " + minute + times, x.may(0, 0, minute), !day ? NONE : in ? 0 : 1);
                due("speed in " + minute + times, x.speed(0, 0, minute), !day ? NONE : in ? 7 : 5);
            }
        }
    }

    private static void lastMayOrNot() {
        sentence("is told by the last may or not that is for it");
        CrossDawn x = chain(3, 5, true);
        mays(x, "not car; may car;", 1);
        mays(x, "may car; not car;", 0);
        mays(x, "not car; may all;", 1);
        mays(x, "may car; not all;", 0);
        mays(x, "not car on s0; may car;", 1);
        mays(x, "not all; may car on s0 from 0 to 1;", 1);
        mays(x, "not car; limit 9 car;", 0);
        mays(x, "not car; may bus; may car on s1; may car from 1 to 1440;", 0);
        mays(x, "may bus;".repeat(19) + "not car;", 0);
        mays(x, "not car;" + "may bus;".repeat(19), 0);
    }

    /** Of a car on street 0 in minute 0. */
    private static void mays(CrossDawn x, String text, int want) {
        read(x, text);
        due("may() by '" + text + "'", x.may(0, 0, 0), want);
        due("fastest() by '" + text + "'", x.fastest(0, 0, 1, 0) == NONE, want == 0);
    }

    private static void elseItMay() {
        sentence("else it MAY");
        CrossDawn x = chain(3, 5, true);
        mays(x, "", 1);
        mays(x, "limit 1;", 1);
        mays(x, "not bus; not truck; not bike;", 1);
        mays(x, "not all on s1;", 1);
        mays(x, "not all from 1 to 1440;", 1);
    }

    private static void lastLimit() {
        sentence("Its SPEED there is the N of the last such limit");
        CrossDawn x = chain(3, 5, true);
        speeds(x, "limit 20; limit 1;", 1);
        speeds(x, "limit 1; limit 20;", 20);
        speeds(x, "limit 9 car; limit 8;", 8);
        speeds(x, "limit 9; limit 8 car;", 8);
        speeds(x, "limit 9 on s0; limit 8 all;", 8);
        speeds(x, "limit 9; limit 8 car on s0 from 0 to 1;", 8);
        speeds(x, "limit 9; limit 8 bus; limit 7 on s1; limit 6 from 1 to 2; may car;", 9);
        speeds(x, "limit 9;" + "limit 8 bike;".repeat(19), 9);
    }

    /** Of a car on street 0 in minute 0. */
    private static void speeds(CrossDawn x, String text, int want) {
        read(x, text);
        due("speed() by '" + text + "'", x.speed(0, 0, 0), want);
        due("fastest() by '" + text + "'", x.fastest(0, 0, 1, 0), (50 + want - 1) / want);
    }

    private static void elseFive() {
        sentence("the last such limit, else 5");
        CrossDawn x = chain(3, 5, true);
        speeds(x, "", 5);
        speeds(x, "may car; may all;", 5);
        speeds(x, "limit 9 bus; limit 9 truck; limit 9 bike;", 5);
        speeds(x, "limit 9 on s1;", 5);
        speeds(x, "limit 9 from 1 to 1440;", 5);
    }

    private static void kindOrAll() {
        sentence("its KIND or all");
        CrossDawn x = chain(2, 5, true);
        String[] kinds = {"car", "bus", "truck", "bike", "all"};
        for (int k = 0; k <= 4; k++) {
            read(x, "not " + kinds[k] + "; limit 7 " + kinds[k] + ";");
            for (int kind = 0; kind <= 3; kind++) {
                boolean isFor = k == kind || k == 4;
                due("may of " + kind + " by not " + kinds[k], x.may(kind, 0, 0), isFor ? 0 : 1);
                due("speed of " + kind + " by limit 7 " + kinds[k], x.speed(kind, 0, 0), isFor ? 7 : 5);
            }
        }
        read(x, "limit 7;");
        for (int kind = 0; kind <= 3; kind++) {
            due("speed of " + kind + " by limit 7", x.speed(kind, 0, 0), 7);
        }
    }

    private static void streetOrNoneTold() {
        sentence("its STREET or none told");
        CrossDawn x = star(16);
        int[] told = {0, 1, 14, 15};
        for (int t : told) {
            read(x, "not all on s" + t + "; limit 7 on s" + t + ";");
            for (int s = 0; s < 16; s++) {
                due("may on " + s + " by not on s" + t, x.may(0, s, 0), s == t ? 0 : 1);
                due("speed on " + s + " by limit on s" + t, x.speed(0, s, 0), s == t ? 7 : 5);
            }
        }
        read(x, "not all; limit 7;");
        for (int s = 0; s < 16; s++) {
            due("may on " + s + " by not all", x.may(0, s, 0), 0);
            due("speed on " + s + " by limit 7", x.speed(0, s, 0), 7);
        }
    }

    private static void allDayUnlessTold() {
        sentence("[from M to M] (an act without them is for all minutes, whatever those ahead of it tell)");
        CrossDawn x = chain(3, 5, true);
        read(x, "not bus on s1 from 10 to 20; not all; limit 9 bus on s1 from 10 to 20; limit 7;");
        int[] minutes = {0, 9, 10, 19, 20, 1439};
        for (int minute : minutes) {
            for (int kind = 0; kind <= 3; kind++) {
                due("may of " + kind + " in " + minute, x.may(kind, 0, minute), 0);
                due("speed of " + kind + " in " + minute, x.speed(kind, 0, minute), 7);
            }
        }
    }

    private static void roundedUp() {
        sentence("A STREET takes LENGTH * 10 / SPEED minutes (rounded up)");
        int[] lengths = {1, 2, 3, 7, 30, 59, 60};
        for (int length : lengths) {
            CrossDawn x = chain(2, length, true);
            for (int speed = 1; speed <= 20; speed++) {
                read(x, "limit " + speed + ";");
                int want = 1;
                while (want * speed < length * 10) {
                    want++;
                }
                due("length " + length + " at speed " + speed, x.fastest(0, 0, 1, 0), want);
            }
        }
    }

    private static void mayWhenItEnters() {
        sentence("on which it MAY drive in the minute when it enters each");
        CrossDawn x = chain(3, 5, true);
        read(x, "not all on s0 from 100 to 101;");
        due("enters in 99, and drives on in 100", x.fastest(0, 0, 1, 99), 10);
        due("enters in 100", x.fastest(0, 0, 1, 100), NONE);
        due("enters in 101", x.fastest(0, 0, 1, 101), 10);
        read(x, "not all on s1 from 100 to 101;");
        due("enters the second in 99", x.fastest(0, 0, 2, 89), 20);
        due("enters the second in 100", x.fastest(0, 0, 2, 90), NONE);
        due("enters the second in 101", x.fastest(0, 0, 2, 91), 20);
    }

    private static void speedWhenItEnters() {
        sentence("as its SPEED .. [is] when one enters it");
        CrossDawn x = chain(3, 5, true);
        read(x, "limit 10 on s0 from 100 to 101;");
        due("enters in 99", x.fastest(0, 0, 1, 99), 10);
        due("enters in 100", x.fastest(0, 0, 1, 100), 5);
        due("enters in 101", x.fastest(0, 0, 1, 101), 10);
        read(x, "limit 10 on s1 from 100 to 101;");
        due("enters the second in 99", x.fastest(0, 0, 2, 89), 20);
        due("enters the second in 100", x.fastest(0, 0, 2, 90), 15);
        due("enters the second in 101", x.fastest(0, 0, 2, 91), 20);
    }

    private static void sideWhenItEnters() {
        sentence("as its .. SIDE [is] when one enters it");
        CrossDawn x = chain(3, 5, false);
        due("enters in 299, and is on it in 300", x.fastest(0, 0, 1, 299), 10);
        due("enters in 300", x.fastest(0, 0, 1, 300), NONE);
        due("enters the second in 299", x.fastest(0, 0, 2, 289), 20);
        due("enters the second in 300", x.fastest(0, 0, 2, 290), NONE);
        due("back, enters in 299", x.fastest(0, 2, 1, 299), NONE);
        due("back, enters in 300", x.fastest(0, 2, 1, 300), 10);
        CrossDawn y = town(3);
        y.street(0, 1, 5, true);
        y.street(2, 1, 5, false);
        due("enters in 299 what opens in 300", y.fastest(0, 0, 2, 289), NONE);
        due("enters in 300 what opens in 300", y.fastest(0, 0, 2, 290), 20);
    }

    private static void turnByTheSideWhenItComes() {
        sentence("a TURN is by the side in the minute when one comes to the CROSSING");
        CrossDawn x = star(3);
        x.corners(1, 6);
        // Street 0 takes 4 minutes, and is left for street 1 (6 minutes), NEAR on the left.
        due("comes in 299", x.fastest(0, 1, 2, 295), 4 + 1 + 6);
        due("comes in 300", x.fastest(0, 1, 2, 296), 4 + 6 + 6);
        // Street 2 (8 minutes) is NEAR on the right; on the left the turn goes on beyond the hour.
        due("comes in 299, turns until 305", x.fastest(0, 1, 3, 295), 4 + 6 + 8);
        due("comes in 300, turns until 301", x.fastest(0, 1, 3, 296), 4 + 1 + 8);
    }

    private static void entersBehindTheTurn() {
        sentence("it enters the next STREET behind it");
        CrossDawn x = chain(3, 5, true);
        x.corners(4, 0);
        read(x, "not all on s1 from 100 to 101; limit 10 on s1 from 99 to 100;");
        due("comes in 95, enters in 99", x.fastest(0, 0, 2, 85), 10 + 4 + 5);
        due("comes in 96, enters in 100", x.fastest(0, 0, 2, 86), NONE);
        due("comes in 97, enters in 101", x.fastest(0, 0, 2, 87), 10 + 4 + 10);
        due("comes in 100, enters in 104", x.fastest(0, 0, 2, 90), 10 + 4 + 10);
        CrossDawn far = star(3);
        far.corners(0, 4);
        // From street 0 (4 minutes) into street 2 (8 minutes) it is far on the left.
        read(far, "not all on s2 from 100 to 101;");
        due("comes in 95, enters in 99", far.fastest(0, 1, 3, 91), 4 + 4 + 8);
        due("comes in 96, enters in 100", far.fastest(0, 1, 3, 92), NONE);
        due("comes in 97, enters in 101", far.fastest(0, 1, 3, 93), 4 + 4 + 8);
        due("comes in 100, enters in 104", far.fastest(0, 1, 3, 96), 4 + 4 + 8);
        CrossDawn y = chain(3, 5, false);
        y.corners(4, 0);
        due("enters a way of one direction in 299", y.fastest(0, 0, 2, 285), 24);
        due("enters a way of one direction in 300", y.fastest(0, 0, 2, 286), NONE);
        CrossDawn z = chain(3, 5, true);
        z.corners(4, 0);
        read(z, "not all on s0 from 104 to 105;");
        due("no turn ahead of the first street", z.fastest(0, 0, 1, 100), 10);
    }

    private static void noWaiting() {
        sentence("no waiting");
        CrossDawn x = chain(3, 5, true);
        read(x, "not all on s0 from 0 to 10; not all on s1 from 30 to 31;");
        due("ahead of the first street", x.fastest(0, 0, 1, 9), NONE);
        due("not needed", x.fastest(0, 0, 1, 10), 10);
        due("ahead of the second street", x.fastest(0, 0, 2, 20), NONE);
        due("not needed", x.fastest(0, 0, 2, 21), 20);
    }

    private static void noWayBack() {
        sentence("going back by the same STREET is no TURN (on a WAY, too)");
        CrossDawn x = chain(4, 5, true);
        read(x, "not all on s2 from 0 to 21;");
        due("a way that ends blindly", x.fastest(0, 0, 3, 0), NONE);
        x.street(1, 2, 5, true);
        x.street(1, 2, 5, true);
        x.corners(0, 0);
        due("over the three besides each other", x.fastest(0, 0, 3, 0), 50);
        due("over the three besides each other", x.streets(0, 0, 3, 0), 5);
    }

    private static void rounds() {
        sentence("A WAY: .. STREETS .. TURNS between them (so that it may go round)");
        CrossDawn x = town(4);
        x.street(0, 1, 1, true);
        x.street(1, 2, 1, true);
        x.street(2, 0, 1, true);
        x.street(0, 3, 1, true);
        x.corners(0, 0);
        // With the hour behind the last change, and ahead of it; with changes by ends and by beginnings.
        int[] hours = {300, 0};
        String[] texts = {"not all on s3 from 0 to ", "not all on s3; may all on s3 from "};
        String[] ends = {";", " to 1440;"};
        for (int hour : hours) {
            x.hour(hour);
            for (int i = 0; i < 2; i++) {
                due("acts()", read(x, texts[i] + 6 + ends[i]) > 0, true);
                due("one round of 6 minutes", x.fastest(0, 0, 3, 0), 8);
                due("one round, and the street", x.streets(0, 0, 3, 0), 4);
                due("acts()", read(x, texts[i] + 7 + ends[i]) > 0, true);
                due("two rounds of 6 minutes", x.fastest(0, 0, 3, 0), 14);
                due("two rounds, and the street", x.streets(0, 0, 3, 0), 7);
            }
        }
    }

    private static void longestTurnAndStreet() {
        sentence("NEAR .. FAR minutes (0 .. 9) .. LENGTH 1 .. 60 .. N 1 .. 20 (the longest of each on a WAY)");
        CrossDawn x = town(4);
        x.street(2, 3, 1, true);
        x.street(1, 2, 60, true);
        x.street(0, 1, 1, true);
        x.corners(9, 9);
        read(x, "limit 1;");
        due("a turn and a street of 609 minutes", x.fastest(0, 0, 2, 0), 10 + 609);
        due("and back", x.fastest(0, 3, 1, 0), 10 + 609);
        due("and one more", x.fastest(0, 0, 3, 0), 10 + 609 + 19);
        due("and back", x.fastest(0, 3, 0, 0), 10 + 609 + 19);
        read(x, "limit 20;");
        due("streets of 1 minute each", x.fastest(0, 0, 3, 0), 1 + 9 + 30 + 9 + 1);
    }

    /** Five streets of 600 minutes each; at crossing 3, reached on the right, one turns far. */
    private static CrossDawn longTown() {
        CrossDawn x = chain(6, 60, true);
        x.crossing();
        x.street(3, 6, 60, true);
        read(x, "limit 1;");
        return x;
    }

    private static void minutes3000() {
        sentence("It is up to 3,000 minutes long");
        CrossDawn x = longTown();
        x.corners(0, 0);
        due("3000 minutes", x.fastest(0, 0, 5, 0), 3000);
        due("3000 minutes", x.streets(0, 0, 5, 0), 5);
        due("3000 minutes from 1439 on", x.fastest(0, 0, 5, 1439), 3000);
        x.corners(0, 1);
        due("3001 minutes", x.fastest(0, 0, 5, 0), NONE);
        due("3001 minutes", x.streets(0, 0, 5, 0), NONE);
        due("3001 minutes from 1439 on", x.fastest(0, 0, 5, 1439), NONE);
        due("2401 minutes", x.fastest(0, 0, 4, 0), 2401);
        x.corners(0, 0);
        due("3000 minutes again", x.fastest(0, 0, 5, 0), 3000);
    }

    private static void streetsUpTo3000() {
        sentence("It is up to 3,000 minutes long (with its last STREET)");
        CrossDawn x = longTown();
        x.corners(0, 0);
        x.crossing();
        x.street(5, 7, 1, true);
        read(x, "limit 1; limit 20 on s0; limit 10 on s6;");
        due("2431 minutes", x.fastest(0, 0, 7, 0), 30 + 2400 + 1);
        read(x, "limit 1; limit 10 on s6;");
        due("3001 minutes", x.fastest(0, 0, 7, 0), NONE);
        due("3001 minutes", x.streets(0, 0, 7, 0), NONE);
    }

    private static void asIn1439() {
        sentence("from minute 1440 on all is as in 1439");
        CrossDawn x = chain(3, 5, true);
        read(x, "not car on s1 from 1439 to 1440; limit 10 bus on s1 from 1439 to 1440;"
            + "not truck on s1 from 0 to 1439; limit 10 bike on s1 from 0 to 1439;");
        int[] comes = {1438, 1439, 1440, 1441, 1449};
        for (int minute : comes) {
            boolean late = minute >= 1439;
            due("car enters in " + minute, x.fastest(0, 0, 2, minute - 10), late ? NONE : 20);
            due("bus enters in " + minute, x.fastest(1, 0, 2, minute - 10), late ? 15 : 20);
            due("truck enters in " + minute, x.fastest(2, 0, 2, minute - 10), late ? 20 : NONE);
            due("bike enters in " + minute, x.fastest(3, 0, 2, minute - 10), late ? 20 : 15);
        }
    }

    private static void hour1439() {
        sentence("from minute 1440 on all is as in 1439 (the side, too)");
        CrossDawn x = town(4);
        x.street(0, 1, 5, true);
        x.street(2, 1, 5, false);
        x.street(1, 3, 5, true);
        x.hour(1439);
        x.corners(0, 3);
        due("comes in 1438, where one direction is not yet", x.fastest(0, 0, 2, 1428), NONE);
        due("comes in 1439, far on the right", x.fastest(0, 0, 2, 1429), 10 + 3 + 10);
        due("comes in 1440, far on the right", x.fastest(0, 0, 2, 1430), 10 + 3 + 10);
        due("comes in 1440, near on the right", x.fastest(0, 0, 3, 1430), 20);
        due("comes in 1438, far on the left", x.fastest(0, 0, 3, 1428), 23);
        due("comes in 1449, far on the right", x.fastest(0, 0, 2, 1439), 10 + 3 + 10);
    }

    private static void leastMinute() {
        sentence("FASTEST is the one that comes there at the least minute");
        CrossDawn x = town(3);
        x.street(0, 1, 5, true);
        x.street(1, 2, 5, true);
        x.street(0, 2, 11, true);
        due("over two streets", x.fastest(0, 0, 2, 0), 20);
        due("over two streets", x.streets(0, 0, 2, 0), 2);
        x.corners(2, 2);
        due("over one street or two", x.fastest(0, 0, 2, 0), 22);
        due("over one street", x.streets(0, 0, 2, 0), 1);
        x.corners(3, 3);
        due("over one street", x.fastest(0, 0, 2, 0), 22);
        // It can be worth while to drive on a slower street first, since there is no waiting.
        x.street(0, 1, 6, true);
        read(x, "not all on s1 from 0 to 15; not all on s2;");
        due("by the slower street", x.fastest(0, 0, 2, 0), 12 + 3 + 10);
    }

    private static void fewestStreets() {
        sentence("14: How many STREETS it has (of like ones the fewest)");
        CrossDawn x = town(5);
        x.street(0, 1, 2, true);
        x.street(1, 2, 2, true);
        x.street(2, 4, 2, true);
        x.street(0, 3, 3, true);
        x.street(3, 4, 3, true);
        x.corners(0, 0);
        due("of 3 and 2", x.fastest(0, 0, 4, 0), 12);
        due("of 3 and 2", x.streets(0, 0, 4, 0), 2);
        x.street(0, 4, 6, true);
        due("of 3, 2 and 1", x.fastest(0, 0, 4, 0), 12);
        due("of 3, 2 and 1", x.streets(0, 0, 4, 0), 1);
        read(x, "not all on s5; not all on s4;");
        due("of 3 alone", x.streets(0, 0, 4, 0), 3);
        // Alike at a crossing on the way, ahead of a street they share.
        CrossDawn y = town(4);
        y.street(0, 1, 2, true);
        y.street(1, 2, 2, true);
        y.street(0, 2, 4, true);
        y.street(2, 3, 2, true);
        y.corners(0, 0);
        due("of 3 and 2 that end alike", y.streets(0, 0, 3, 0), 2);
    }

    private static void oneToItself() {
        sentence("13: (0 from one to itself)");
        CrossDawn x = town(8);
        read(x, "not all;");
        for (int crossing = 0; crossing < 8; crossing++) {
            due("fastest from " + crossing, x.fastest(3, crossing, crossing, 1439), 0);
            due("streets from " + crossing, x.streets(0, crossing, crossing, 0), 0);
        }
        due("as the first question of all", town(1).fastest(0, 0, 0, 0), 0);
        due("as the first question of all", town(1).streets(0, 0, 0, 0), 0);
        due("of no kind", x.fastest(4, 0, 0, 0), NONE);
        due("in no minute", x.streets(0, 0, 0, 1440), NONE);
        due("in no minute", x.fastest(0, 0, 0, -1), NONE);
        due("from none", x.streets(0, 8, 8, 0), NONE);
        due("from none", x.fastest(0, -1, -1, 0), NONE);
    }

    private static void noneLeadsThere() {
        sentence("13, 14: NONE if there is none");
        CrossDawn x = town(3);
        due("without streets", x.fastest(0, 0, 1, 0), NONE);
        due("without streets", x.streets(0, 0, 1, 0), NONE);
        x.street(0, 1, 5, true);
        due("there", x.streets(0, 0, 1, 0), 1);
        due("to one without streets", x.fastest(0, 0, 2, 0), NONE);
        due("to one without streets", x.streets(0, 0, 2, 0), NONE);
        due("from one without streets", x.fastest(0, 2, 0, 0), NONE);
        read(x, "not truck;");
        due("where it may not drive", x.fastest(2, 0, 1, 0), NONE);
        due("where it may not drive", x.streets(2, 0, 1, 0), NONE);
    }

    private static void waysThatCantBe() {
        sentence("13, 14: or one can't be");
        CrossDawn x = chain(3, 5, true);
        int[] kinds = {LOWEST, -1, 4, HIGHEST};
        for (int kind : kinds) {
            bothNone(x, kind, 0, 2, 0);
        }
        int[] crossings = {LOWEST, -1, 3, 8, HIGHEST};
        for (int crossing : crossings) {
            bothNone(x, 0, crossing, 2, 0);
            bothNone(x, 0, 0, crossing, 0);
        }
        int[] minutes = {LOWEST, -1, 1440, HIGHEST};
        for (int minute : minutes) {
            bothNone(x, 0, 0, 2, minute);
        }
        due("the last of each", x.fastest(3, 2, 0, 1439), 20);
        due("the last of each", x.streets(3, 2, 0, 1439), 2);
        due("the first of each", x.fastest(0, 0, 2, 0), 20);
    }

    private static void bothNone(CrossDawn x, int kind, int from, int to, int minute) {
        String call = "(" + kind + ", " + from + ", " + to + ", " + minute + ")";
        due("fastest" + call, x.fastest(kind, from, to, minute), NONE);
        due("streets" + call, x.streets(kind, from, to, minute), NONE);
    }

    private static void waysOfWhatChanged() {
        sentence("13: as all is when it is asked");
        CrossDawn x = star(3);
        due("at first", x.fastest(0, 1, 2, 0), 10);
        due("from another", x.fastest(0, 3, 2, 0), 16);
        due("to another", x.fastest(0, 3, 0, 0), 8);
        due("in another minute", x.fastest(0, 1, 2, 300), 12);
        due("at first", x.fastest(0, 1, 2, 0), 10);
        x.corners(5, 2);
        due("behind corners()", x.fastest(0, 1, 2, 0), 15);
        x.hour(0);
        due("behind hour()", x.fastest(0, 1, 2, 0), 12);
        read(x, "limit 1 on s1;");
        due("behind acts()", x.fastest(0, 1, 2, 0), 36);
        x.street(1, 2, 7, true);
        due("behind street()", x.fastest(0, 1, 2, 0), 14);
        due("behind street()", x.streets(0, 1, 2, 0), 1);
    }
}
