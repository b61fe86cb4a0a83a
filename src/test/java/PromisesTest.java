/** For each promise: ordinary calls, the edges that the document names, and wrong calls. */
public final class PromisesTest extends Due {
    public static void main(String[] args) {
        newObject();
        crossings();
        streets();
        hours();
        corners();
        turns();
        tape();
        tokens();
        wordsBeforeDigits();
        misplaced();
        numbers();
        actLimits();
        faultsStay();
        mayAndSpeed();
        ways();
        waysInTime();
        wayLength();
        slowestStep();
        signsAndCrews();
        walks();
        orders();
        days();
        counts();
        known();
        differing();
        finish();
    }

    private static void newObject() {
        CrossDawn x = new CrossDawn();
        for (int what = 0; what <= 8; what++) {
            due("1/25: about(" + what + ")", x.about(what), what == 2 ? 300 : 0);
        }
        due("25: about(-1)", x.about(-1), -1);
        due("25: about(9)", x.about(9), -1);
        due("10: fault(0)", x.fault(0), 0);
        due("10: fault(1)", x.fault(1), -1);
        due("10: fault(2)", x.fault(2), -1);
        due("10: fault(-1)", x.fault(-1), -1);
        due("18: done()", x.done(), 0);
        due("NONE", CrossDawn.NONE, -1);
    }

    private static void crossings() {
        CrossDawn x = new CrossDawn();
        for (int i = 0; i < 8; i++) {
            due("2: crossing", x.crossing(), i);
        }
        due("2: a ninth", x.crossing(), -1);
        due("25: crossings", x.about(0), 8);
    }

    private static void streets() {
        CrossDawn x = town(3);
        due("3: length 0", x.street(0, 1, 0, true), -1);
        due("3: length 61", x.street(0, 1, 61, true), -1);
        due("3: from itself", x.street(1, 1, 5, true), -1);
        due("3: no first", x.street(3, 1, 5, true), -1);
        due("3: no second", x.street(1, -1, 5, true), -1);
        due("25: none yet", x.about(1), 0);
        due("3: length 1", x.street(0, 1, 1, true), 0);
        due("3: length 60, besides", x.street(1, 0, 60, false), 1);
        for (int i = 2; i < 16; i++) {
            due("3: street", x.street(1, 2, 5, true), i);
        }
        due("3: a seventeenth", x.street(0, 2, 5, true), -1);
        due("25: streets", x.about(1), 16);
    }

    private static void hours() {
        CrossDawn x = new CrossDawn();
        due("4: hour(-1)", x.hour(-1), false);
        due("4: hour(1440)", x.hour(1440), false);
        due("4: stays", x.about(2), 300);
        due("4: hour(1439)", x.hour(1439), true);
        due("4: is", x.about(2), 1439);
        due("4: hour(0)", x.hour(0), true);
        due("4: is", x.about(2), 0);
    }

    private static CrossDawn crossroads() {
        CrossDawn x = town(5);
        x.street(0, 1, 10, true);
        x.street(2, 0, 10, true);
        x.street(0, 3, 10, true);
        x.street(4, 0, 10, true);
        return x;
    }

    private static void corners() {
        CrossDawn x = crossroads();
        due("5: near -1", x.corners(-1, 3), false);
        due("5: near 10", x.corners(10, 3), false);
        due("5: far -1", x.corners(3, -1), false);
        due("5: far 10", x.corners(3, 10), false);
        due("5: near stays", x.turn(0, 0, 1, 0), 0);
        due("5: far stays", x.turn(0, 0, 2, 0), 2);
        due("5: 9 and 0", x.corners(9, 0), true);
        due("5: near", x.turn(0, 0, 1, 0), 9);
        due("5: far", x.turn(0, 0, 2, 0), 0);
        due("5: 0 and 9", x.corners(0, 9), true);
        due("5: near", x.turn(0, 0, 1, 0), 0);
        due("5: far", x.turn(0, 0, 2, 0), 9);
    }

    private static void turns() {
        CrossDawn x = crossroads();
        x.corners(1, 2);
        for (int from = 0; from < 4; from++) {
            for (int further = 1; further < 4; further++) {
                int to = (from + further) % 4;
                due("6: on the left", x.turn(0, from, to, 299), further == 1 ? 1 : 2);
                due("6: on the right", x.turn(0, from, to, 300), further == 3 ? 1 : 2);
                due("6: late", x.turn(0, from, to, Integer.MAX_VALUE), further == 3 ? 1 : 2);
            }
            due("6: back", x.turn(0, from, from, 0), -1);
        }
        due("6: minute -1", x.turn(0, 0, 1, -1), -1);
        due("6: no crossing", x.turn(5, 0, 1, 0), -1);
        due("6: crossing -1", x.turn(-1, 0, 1, 0), -1);
        due("6: from elsewhere", x.turn(1, 1, 0, 0), -1);
        due("6: to elsewhere", x.turn(1, 0, 1, 0), -1);
        due("6: from none", x.turn(0, 4, 1, 0), -1);
        due("6: to none", x.turn(0, 1, -1, 0), -1);
        due("6: of two", town2().turn(1, 0, 1, 0), 0);
        due("6: of two, on the right", town2().turn(1, 0, 1, 300), 0);
    }

    private static CrossDawn town2() {
        CrossDawn x = town(3);
        x.street(0, 1, 5, true);
        x.street(1, 2, 5, false);
        return x;
    }

    private static void tape() {
        CrossDawn x = new CrossDawn();
        for (int i = 1; i <= 40; i++) {
            due("7: feed", x.feed(0, 0, 0, 0, 0), i * 20);
        }
        due("7: too much", x.feed(0, 0, 0, 0, 0), -1);
        due("7: nothing came", x.about(8), 800);
        due("8: end(801)", x.end(801), -1);
        due("8: end(-1)", x.end(-1), -1);
        due("8: did nothing", x.about(8), 800);
        due("8: end(781)", x.end(781), 781);
        due("7: a byte too much", x.feed(0, 0, 0, 0, 0), -1);
        due("8: end(780)", x.end(780), 780);
        due("7: just enough", x.feed(0, 0, 0, 0, 0), 800);
        due("8: end(0)", x.end(0), 0);
        due("8: end(1)", x.end(1), -1);
        due("9: no text", x.acts(), 0);
        due("7: bytes above 127", x.feed(0x6d6179ff, 0, 0, 0, 0), 20);
        due("9: a byte 255", x.acts(), -1);
        due("10: fault", x.fault(0), 1);
        due("10: place", x.fault(1), 3);
        due("7: bytes above 127", x.feed(0xed617920, 0x6361723b, 0x20202020, 0x20202020, 0x20202020), 20);
        due("9: no word", x.acts(), -1);
        due("10: fault", x.fault(0), 1);
        due("10: place", x.fault(1), 0);
        String most = "may car;" + " ".repeat(792);
        right(most, 1);
    }

    private static void tokens() {
        right("", 0);
        right("  \n \n", 0);
        right("may car;", 1);
        right("\nnot\nall on s15 from0 to1440;", 1);
        right("limit5;limit20 bike on s0 from 0000 to 0001;", 2);
        right("limit 1 all on s05;may truck;not bus;", 3);
        fault("\tmay car;", 1, 0);
        fault("may\rcar;", 1, 3);
        fault("May car;", 1, 0);
        fault("may car,", 1, 7);
        fault("may car\0;", 1, 7);
        fault("abcdefghi", 1, 0);
        fault("abcdefgh", 2, 0);
        fault("may abcdefghi;", 1, 4);
        fault("limit 00001;", 1, 6);
        fault("limit 99999;", 1, 6);
        fault("limit 5car;", 1, 6);
        fault("limit 50car;", 1, 6);
        fault("limit 1 car from 5to 6;", 1, 17);
        fault("99999999999999999999999999", 1, 0);
        right("may car on s1;", 1);
    }

    /** An s with digits that are no street's is a word, whatever its digits are. */
    private static void wordsBeforeDigits() {
        fault("may car on s16;", 2, 11);
        fault("may car on s16; \0\0\0\0", 2, 11);
        fault("may car on s99;", 2, 11);
        fault("may car on s001;", 2, 11);
        fault("may car on s12345;", 2, 11);
        fault("may car on s1x;", 2, 11);
        fault("may car on s16x;", 2, 11);
        fault("may car on s1from 1 to 2;", 2, 11);
        fault("may car on s1s1;", 2, 11);
        fault("may car on s1 6;", 2, 14);
        fault("may car on s15?", 1, 14);
        fault("may car on ?16;", 1, 11);
        fault("may s99", 2, 4);
        fault("may car s16;", 2, 8);
        fault("limit 5 s16;", 2, 8);
        fault("limit s16;", 2, 6);
        fault("may car from s16 to 20;", 2, 13);
        fault("may car; s16", 2, 9);
        fault("s16", 2, 0);
        fault("s99999999999999999999999999", 2, 0);
        fault("s4294967297;", 2, 0);
        right("may car on s15 from 16 to 17;", 1);
    }

    private static void misplaced() {
        fault(";", 2, 0);
        fault("car", 2, 0);
        fault("5", 2, 0);
        fault("s5", 2, 0);
        fault("mayall;", 2, 0);
        fault("may", 2, 3);
        fault("may  \n", 2, 6);
        fault("may;", 2, 3);
        fault("may on s1;", 2, 4);
        fault("may 5;", 2, 4);
        fault("may car", 2, 7);
        fault("may car car;", 2, 8);
        fault("may car on", 2, 10);
        fault("may car on 5;", 2, 11);
        fault("may car on s 5;", 2, 11);
        fault("may car on s5 on s6;", 2, 14);
        fault("may car from 1 to 2 on s5;", 2, 20);
        fault("may car from s1 to 2;", 2, 13);
        fault("may car from 1 2;", 2, 15);
        fault("may car from 1 to;", 2, 17);
        fault("may car from 1 to 2 3;", 2, 20);
        fault("may car ons5;", 2, 8);
        fault("limit;", 2, 5);
        fault("limit car 5;", 2, 6);
        fault("limit 5 5;", 2, 8);
        fault("limit 5 on s5 car;", 2, 14);
        fault("limit 5 may car;", 2, 8);
        fault("may car; xyz", 2, 9);
    }

    private static void numbers() {
        fault("limit 0;", 3, 6);
        fault("limit 0 ?", 3, 6);
        fault("limit 21;", 3, 6);
        fault("may car from 1441 to 1442;", 3, 13);
        fault("may car from 1440 to 1440;", 3, 21);
        fault("may car from 5 to 5;", 3, 18);
        fault("may car from 5 to 4;", 3, 18);
        fault("may car from 5 to 1441;", 3, 18);
        fault("may car from 0 to 0", 3, 18);
        fault("may car from 9999 x", 3, 13);
        right("may car from 1439 to 1440;", 1);
        right("may car from 0 to 1;", 1);
    }

    private static void actLimits() {
        right("may car;".repeat(20), 20);
        fault("may car;".repeat(20) + " not car;", 2, 161);
        fault("may car;".repeat(20) + "x", 2, 160);
        fault("may car;".repeat(20) + "?", 1, 160);
        right("may car;".repeat(20) + "  ", 20);
    }

    private static void faultsStay() {
        CrossDawn x = town2();
        due("9: two", read(x, "not car on s0;limit 9;"), 2);
        due("9: a fault", read(x, "may car; may"), -1);
        due("10: fault", x.fault(0), 2);
        due("10: place", x.fault(1), 12);
        due("9: those there are stay", x.about(3), 2);
        due("9: and hold", x.may(0, 0, 0), 0);
        due("9: and hold", x.speed(0, 0, 0), 9);
        due("9: another fault", read(x, "limit 0;"), -1);
        due("10: the latest fault", x.fault(0), 3);
        due("9: a third", read(x, "may;"), -1);
        due("10: the latest fault", x.fault(0), 2);
        due("10: the latest place", x.fault(1), 3);
        due("9: none", read(x, ""), 0);
        due("10: no fault", x.fault(0), 0);
        due("10: no place", x.fault(1), -1);
        due("9: gone", x.may(0, 0, 0), 1);
        due("9: gone", x.speed(0, 0, 0), 5);
    }

    private static void mayAndSpeed() {
        CrossDawn x = town2();
        read(x, "not all from 10 to 20; may bus; limit 7 on s1; limit 8 truck from 5 to 6; limit 9 on s2;");
        due("11: ahead", x.may(0, 0, 9), 1);
        due("11: from the first", x.may(0, 0, 10), 0);
        due("11: up to the second", x.may(0, 0, 19), 0);
        due("11: not the second", x.may(0, 0, 20), 1);
        due("11: the last one tells", x.may(1, 0, 15), 1);
        due("11: all", x.may(3, 1, 15), 0);
        due("12: usual", x.speed(0, 0, 0), 5);
        due("12: on a street", x.speed(0, 1, 0), 7);
        due("12: of a kind", x.speed(2, 1, 5), 8);
        due("12: in time", x.speed(2, 1, 6), 7);
        for (int kind = -1; kind <= 4; kind += 5) {
            due("11: kind", x.may(kind, 0, 0), -1);
            due("12: kind", x.speed(kind, 0, 0), -1);
        }
        for (int street = -1; street <= 2; street += 3) {
            due("11: street", x.may(0, street, 0), -1);
            due("12: street", x.speed(0, street, 0), -1);
        }
        for (int minute = -1; minute <= 1440; minute += 1441) {
            due("11: minute", x.may(0, 0, minute), -1);
            due("12: minute", x.speed(0, 0, minute), -1);
        }
        x.street(0, 2, 1, true);
        due("12: an act for a later street", x.speed(0, 2, 0), 9);
    }

    private static void ways() {
        CrossDawn x = town2();
        due("13: over two", x.fastest(0, 0, 2, 0), 20);
        due("14: over two", x.streets(0, 0, 2, 0), 2);
        due("13: against one way", x.fastest(0, 2, 0, 0), -1);
        due("14: against one way", x.streets(0, 2, 0, 0), -1);
        due("13: behind the hour", x.fastest(0, 2, 0, 300), 20);
        due("13: one way when it enters", x.fastest(0, 0, 2, 290), -1);
        due("13: just ahead of the hour", x.fastest(0, 0, 2, 289), 20);
        due("13: to itself", x.fastest(3, 2, 2, 1439), 0);
        due("14: to itself", x.streets(3, 2, 2, 1439), 0);
        int[][] bad = {{-1, 0, 1, 0}, {4, 0, 1, 0}, {0, -1, 1, 0}, {0, 3, 1, 0}, {0, 0, -1, 0},
            {0, 0, 3, 0}, {0, 0, 1, -1}, {0, 0, 1, 1440}, {0, 3, 3, 0}, {4, 1, 1, 0}};
        for (int[] b : bad) {
            due("13: wrong", x.fastest(b[0], b[1], b[2], b[3]), -1);
            due("14: wrong", x.streets(b[0], b[1], b[2], b[3]), -1);
        }
        read(x, "limit 3;");
        due("13: rounded up", x.fastest(0, 0, 1, 0), 17);
        due("13: both", x.fastest(0, 0, 2, 0), 34);
        x.street(0, 2, 7, true);
        due("13: a street told later", x.fastest(0, 0, 2, 0), 24);
        due("14: a street told later", x.streets(0, 0, 2, 0), 1);
    }

    /** What was answered must be forgotten when something changes. */
    private static void waysInTime() {
        CrossDawn x = crossroads();
        due("13: near", x.fastest(0, 1, 2, 0), 40);
        due("13: near on the right is far", x.fastest(0, 1, 2, 280), 42);
        x.hour(0);
        due("13: another hour", x.fastest(0, 1, 2, 0), 42);
        x.corners(1, 5);
        due("13: other corners", x.fastest(0, 1, 2, 0), 45);
        read(x, "not all on s1 from 25 to 30; limit 10 on s1 from 30 to 31;");
        due("13: it may not enter", x.fastest(0, 1, 2, 0), -1);
        due("13: nor just ahead", x.fastest(0, 1, 2, 4), -1);
        due("13: the speed as it enters", x.fastest(0, 1, 2, 5), 35);
        due("13: and behind", x.fastest(0, 1, 2, 6), 45);

        // Without waiting, a round of a triangle is how one comes later.
        CrossDawn y = town(4);
        y.street(0, 1, 1, true);
        y.street(1, 2, 1, true);
        y.street(2, 0, 1, true);
        y.street(0, 3, 1, true);
        y.corners(0, 0);
        read(y, "not all on s3 from 0 to 4;");
        due("13: a round first", y.fastest(0, 0, 3, 0), 8);
        due("14: a round first", y.streets(0, 0, 3, 0), 4);
        due("13: no round", y.fastest(0, 0, 3, 4), 2);
        due("14: no round", y.streets(0, 0, 3, 4), 1);

        // Of like ones the fewest: one street as long as two.
        CrossDawn z = town(3);
        z.street(0, 1, 5, true);
        z.street(1, 2, 5, true);
        z.street(0, 2, 10, true);
        z.corners(0, 0);
        due("13: alike", z.fastest(0, 0, 2, 0), 20);
        due("14: the fewest", z.streets(0, 0, 2, 0), 1);
    }

    private static void wayLength() {
        CrossDawn x = town(7);
        for (int i = 0; i < 5; i++) {
            x.street(i, i + 1, 60, true);
        }
        x.street(5, 6, 1, true);
        read(x, "limit 1;");
        due("13: 3000 minutes", x.fastest(0, 0, 5, 0), 3000);
        due("14: 3000 minutes", x.streets(0, 0, 5, 0), 5);
        due("13: from 1440 on", x.fastest(0, 0, 5, 1439), 3000);
        due("13: 3010 minutes", x.fastest(0, 0, 6, 0), -1);
        due("14: 3010 minutes", x.streets(0, 0, 6, 0), -1);
        x.corners(1, 1);
        due("13: 3004 minutes", x.fastest(0, 0, 5, 0), -1);
        read(x, "limit 1; not bike on s1 from 1439 to 1440; not car on s1 from 1438 to 1439;");
        due("13: all is as in 1439", x.fastest(3, 0, 2, 1400), -1);
        due("13: not as in 1438", x.fastest(0, 0, 2, 1400), 1201);
    }

    private static void slowestStep() {
        CrossDawn x = town(4);
        x.street(0, 1, 1, true);
        x.street(1, 2, 60, true);
        x.street(2, 3, 1, true);
        x.corners(9, 9);
        read(x, "limit 1;");
        due("13: a step of 609 minutes", x.fastest(0, 0, 2, 0), 619);
        due("13: and one behind it", x.fastest(0, 0, 3, 0), 638);
    }

    private static void signsAndCrews() {
        CrossDawn x = town(2);
        due("15: no crossing", x.sign(2, 5), -1);
        due("15: crossing -1", x.sign(-1, 5), -1);
        due("15: work 0", x.sign(0, 0), -1);
        due("15: work 61", x.sign(0, 61), -1);
        due("15: work 1", x.sign(0, 1), 0);
        due("15: work 60", x.sign(0, 60), 1);
        for (int i = 2; i < 8; i++) {
            due("15: sign", x.sign(0, 1), i);
        }
        due("15: a ninth", x.sign(0, 1), -1);
        due("18: no crew", x.done(), -1);
        due("19: no crew", x.order(0, 0), -1);
        due("16: no crossing", x.crew(2), -1);
        due("16: crossing -1", x.crew(-1), -1);
        for (int i = 0; i < 3; i++) {
            due("16: crew", x.crew(1), i);
        }
        due("16: a fourth", x.crew(1), -1);
        due("25: signs", x.about(4), 8);
        due("25: crews", x.about(5), 3);
        due("18: none leads there", x.done(), -1);
        x.street(1, 0, 2, false);
        due("18: now one does", x.done(), 62);
    }

    private static void walks() {
        CrossDawn x = town(4);
        x.street(0, 1, 60, false);
        x.street(1, 2, 60, false);
        due("17: there", x.walk(0, 2), 120);
        due("17: back", x.walk(2, 0), 120);
        due("17: itself", x.walk(3, 3), 0);
        due("17: none leads there", x.walk(0, 3), -1);
        due("17: no first", x.walk(4, 0), -1);
        due("17: no second", x.walk(0, -1), -1);
        due("17: no crossing to itself", x.walk(4, 4), -1);
        x.street(2, 0, 5, true);
        due("17: shorter", x.walk(0, 2), 5);
        due("17: shorter", x.walk(0, 1), 60);
        x.street(1, 2, 7, true);
        due("17: shorter over another", x.walk(0, 1), 12);
        x.street(3, 2, 1, true);
        due("17: now one leads there", x.walk(1, 3), 8);
    }

    private static void orders() {
        CrossDawn x = town(4);
        x.street(0, 1, 10, true);
        x.street(1, 2, 10, true);
        x.street(2, 3, 10, true);
        x.crew(1);
        x.sign(0, 5);
        x.sign(2, 5);
        due("18: either side first", x.done(), 40);
        due("19: the first by numbers", x.order(0, 1), 0);
        due("19: in its minute", x.order(0, 2), 15);
        due("19: behind it", x.order(1, 1), 1);
        due("19: in its minute", x.order(1, 2), 40);
        x.sign(3, 5);
        due("18: three", x.done(), 55);
        x.crew(1);
        due("18: two crews", x.done(), 30);
        due("19: crew of sign 0", x.order(0, 0), 0);
        due("19: crew of sign 1", x.order(1, 0), 1);
        due("19: crew of sign 2", x.order(2, 0), 1);
        due("19: sign 2 is last", x.order(2, 2), 30);
        due("19: no sign", x.order(3, 0), -1);
        due("19: sign -1", x.order(-1, 0), -1);
        due("19: what -1", x.order(0, -1), -1);
        due("19: what 3", x.order(0, 3), -1);

        // The least crews, though another share would end some crew's work sooner.
        CrossDawn y = town(2);
        y.street(0, 1, 20, true);
        y.crew(0);
        y.crew(0);
        y.sign(1, 40);
        y.sign(0, 10);
        y.sign(0, 10);
        due("18: least", y.done(), 60);
        due("19: crew", y.order(0, 0), 0);
        due("19: crew", y.order(1, 0), 1);
        due("19: crew", y.order(2, 0), 1);
        CrossDawn z = town(1);
        z.crew(0);
        z.crew(0);
        z.sign(0, 5);
        z.sign(0, 5);
        z.sign(0, 20);
        z.sign(0, 9);
        due("18: least", z.done(), 20);
        due("19: crew of 0", z.order(0, 0), 0);
        due("19: crew of 1", z.order(1, 0), 0);
        due("19: crew of 2", z.order(2, 0), 1);
        due("19: crew of 3", z.order(3, 0), 0);
        due("19: ahead of 3", z.order(3, 1), 2);
        due("19: minute of 3", z.order(3, 2), 19);
    }

    private static void days() {
        CrossDawn x = new CrossDawn();
        due("20: later(-1)", x.later(-1), -1);
        due("20: later(1001)", x.later(1001), -1);
        due("20: later(0)", x.later(0), 0);
        for (int i = 1; i <= 99; i++) {
            due("20: later(1000)", x.later(1000), i * 1000);
        }
        due("20: later(999)", x.later(999), 99_999);
        due("20: too late", x.later(2), -1);
        due("25: the day stays", x.about(6), 99_999);
        due("20: the last day", x.later(1), 100_000);
        due("20: none behind", x.later(1), -1);
        due("20: later(0)", x.later(0), 100_000);
    }

    private static void counts() {
        CrossDawn x = new CrossDawn();
        int[][] bad = {{-1, 0, 0}, {4, 0, 0}, {0, -51, 0}, {0, 51, 0}, {0, 0, -1}, {0, 0, 1001}};
        for (int[] b : bad) {
            due("21: wrong", x.tell(b[0], b[1], b[2]), -1);
        }
        due("25: none yet", x.about(7), 0);
        due("22: none yet", x.untell(0), false);
        due("21: first", x.tell(0, -50, 0), 0);
        due("21: second", x.tell(3, 50, 1000), 1);
        for (int i = 2; i < 60; i++) {
            due("21: count", x.tell(1, i - 50, 1), i);
        }
        due("21: too many", x.tell(0, 0, 0), -1);
        due("25: counts", x.about(7), 60);
        due("22: none such", x.untell(60), false);
        due("22: none such", x.untell(-1), false);
        due("22: untold", x.untell(59), true);
        due("22: already", x.untell(59), false);
        due("21: still too many", x.tell(0, 0, 0), -1);
        due("25: still counts", x.about(7), 60);
        due("23: a kind's own", x.harms(3, -50, 50, 0), 1000);
        due("23: untold", x.harms(1, -50, 50, 0), 57);
    }

    private static void known() {
        CrossDawn x = new CrossDawn();
        x.later(2);
        x.tell(2, 5, 10);
        x.later(2);
        x.tell(2, 5, 20);
        x.later(2);
        x.untell(1);
        x.later(2);
        x.untell(0);
        int[] byDay = {0, 0, 10, 10, 20, 20, 10, 10, 0, 0};
        for (int k = 0; k < byDay.length; k++) {
            due("23: on day " + k, x.harms(2, 5, 5, k), byDay[k]);
        }
        due("23: long ago", x.harms(2, 5, 5, Integer.MIN_VALUE), 0);
        due("23: in time to come", x.harms(2, 5, 5, Integer.MAX_VALUE), 0);
        x.tell(2, 5, 30);
        due("23: in time to come", x.harms(2, 5, 5, Integer.MAX_VALUE), 30);
        int[][] bad = {{-1, 0, 0}, {4, 0, 0}, {0, -51, 0}, {0, 51, 51}, {0, 0, 51}, {0, -51, -51},
            {0, 1, 0}};
        for (int[] b : bad) {
            due("23: wrong", x.harms(b[0], b[1], b[2], 0), -1);
        }
        due("23: all weeks", x.harms(2, -50, 50, 100), 30);
    }

    private static void differing() {
        CrossDawn x = new CrossDawn();
        due("24: n 0", x.differ(0, 0, 0), -1);
        due("24: n 51", x.differ(0, 51, 0), -1);
        due("24: kind -1", x.differ(-1, 1, 0), -1);
        due("24: kind 4", x.differ(4, 1, 0), -1);
        due("24: n 50", x.differ(0, 50, 0), 0);
        x.tell(0, -1, 0);
        due("24: no week 0", x.differ(0, 1, 0), 0);
        x.tell(0, 0, 4);
        due("24: 16 is not more than 16", x.differ(0, 1, 0), 2);
        x.tell(0, 0, 5);
        due("24: 25 is more than 20", x.differ(0, 1, 0), 1);
        due("24: not known yet", x.differ(0, 1, -1), 0);
        x.tell(1, -1, 5);
        due("24: no week 0 of it", x.differ(1, 1, 0), 0);
        x.tell(1, 0, 0);
        due("24: fewer", x.differ(1, 1, 0), 1);
        x.tell(1, -2, 0);
        due("24: no week 1", x.differ(1, 2, 0), 0);
        x.tell(1, 1, 1);
        due("24: 16 is not more than 24", x.differ(1, 2, 0), 2);
        CrossDawn y = new CrossDawn();
        for (int week = -30; week < 30; week++) {
            y.tell(0, week, week < 0 ? 0 : 1000);
        }
        due("24: much", y.differ(0, 30, 0), 1);
        due("23: much", y.harms(0, -50, 50, 0), 30_000);
    }
}
