/** Promises 20 to 24, and part 4 of the terms: each sentence that names a boundary. */
public final class HarmEdgesTest extends Due {
    public static void main(String[] args) {
        days0To1000();
        day100000();
        dayAtFirst();
        kinds0To3();
        weeks();
        harms0To1000();
        counts60();
        untoldOnesStayCounts();
        untellsThatAreNone();
        untoldAlready();
        toldOnADayOrBefore();
        untoldOnADayOrBefore();
        untoldOnTheSameDay();
        lastCount();
        eachWeek();
        weeksFromTo();
        harmsThatCantBe();
        anyDayIsAsked();
        mostHarms();
        beforeAndAfter();
        weeksOfDiffer();
        kindsOfDiffer();
        moreThanFourTimes();
        fewerAfter();
        allWeeksHaveACount();
        zeroIsACount();
        differAsKnown();
        finish();
    }

    private static void days0To1000() {
        sentence("20: So many days later (0 .. 1000): the DAY; NONE, doing nothing, for another number");
        CrossDawn x = new CrossDawn();
        int[] none = {LOWEST, -1000, -1, 1001, 100_000, HIGHEST};
        due("later(5)", x.later(5), 5);
        for (int days : none) {
            due("later(" + days + ")", x.later(days), NONE);
            due("about(6)", x.about(6), 5);
        }
        due("later(0)", x.later(0), 5);
        due("later(1)", x.later(1), 6);
        due("later(1000)", x.later(1000), 1006);
        due("about(6)", x.about(6), 1006);
        doesNothing(Due::land, y -> {
            due("later(-1)", y.later(-1), NONE);
            due("later(1001)", y.later(1001), NONE);
        });
    }

    private static void day100000() {
        sentence("20: NONE, doing nothing, .. if it would be above 100,000");
        CrossDawn x = new CrossDawn();
        for (int i = 1; i < 100; i++) {
            due("later(1000)", x.later(1000), 1000 * i);
        }
        due("later(1)", x.later(1), 99_001);
        due("up to 100,001", x.later(1000), NONE);
        due("about(6)", x.about(6), 99_001);
        due("up to 100,000", x.later(999), 100_000);
        due("later(1)", x.later(1), NONE);
        due("later(1000)", x.later(1000), NONE);
        due("later(0)", x.later(0), 100_000);
        due("about(6)", x.about(6), 100_000);
        due("told on the last day", x.tell(0, 0, 7), 0);
        due("known the day before", x.harms(0, 0, 0, 99_999), 0);
        due("known on the last day", x.harms(0, 0, 0, 100_000), 7);
        due("untold on the last day", x.untell(0), true);
        due("known on the last day", x.harms(0, 0, 0, 100_000), 0);
    }

    private static void dayAtFirst() {
        sentence("TOLD on a DAY (0 at first, goes on)");
        CrossDawn x = new CrossDawn();
        x.tell(0, 0, 7);
        due("known on -1", x.harms(0, 0, 0, -1), 0);
        due("known on 0", x.harms(0, 0, 0, 0), 7);
        x.later(1);
        x.tell(0, 0, 8);
        due("known on 0", x.harms(0, 0, 0, 0), 7);
        due("known on 1", x.harms(0, 0, 0, 1), 8);
    }

    private static void kinds0To3() {
        sentence("21: NONE, doing nothing, if it can't be (of a KIND)");
        CrossDawn x = new CrossDawn();
        int[] none = {LOWEST, -1, 4, HIGHEST};
        for (int kind : none) {
            due("tell of kind " + kind, x.tell(kind, 0, 1), NONE);
        }
        due("about(7)", x.about(7), 0);
        for (int kind = 0; kind <= 3; kind++) {
            due("tell of kind " + kind, x.tell(kind, 0, 1 + kind), kind);
        }
        for (int kind = 0; kind <= 3; kind++) {
            due("harms of kind " + kind, x.harms(kind, -50, 50, 0), 1 + kind);
        }
        doesNothing(Due::land, y -> {
            due("kind -1", y.tell(-1, 0, 1), NONE);
            due("kind 4", y.tell(4, 0, 1), NONE);
        });
    }

    private static void weeks() {
        sentence("of a week (-50 .. 50");
        CrossDawn x = new CrossDawn();
        int[] none = {LOWEST, -51, 51, HIGHEST};
        for (int week : none) {
            due("tell of week " + week, x.tell(0, week, 1), NONE);
        }
        due("about(7)", x.about(7), 0);
        due("harms()", x.harms(0, -50, 50, 0), 0);
        due("tell of week -50", x.tell(0, -50, 1), 0);
        due("tell of week 50", x.tell(0, 50, 2), 1);
        due("harms of week -50", x.harms(0, -50, -50, 0), 1);
        due("harms of week 50", x.harms(0, 50, 50, 0), 2);
        doesNothing(Due::land, y -> {
            due("week -51", y.tell(0, -51, 1), NONE);
            due("week 51", y.tell(0, 51, 1), NONE);
        });
    }

    private static void harms0To1000() {
        sentence("so many (0 .. 1000)");
        CrossDawn x = new CrossDawn();
        int[] none = {LOWEST, -1, 1001, HIGHEST};
        for (int harms : none) {
            due("tell of " + harms, x.tell(0, 0, harms), NONE);
        }
        due("about(7)", x.about(7), 0);
        due("tell of 1000", x.tell(0, 0, 1000), 0);
        due("harms()", x.harms(0, 0, 0, 0), 1000);
        due("tell of 0", x.tell(0, 0, 0), 1);
        due("harms()", x.harms(0, 0, 0, 0), 0);
        doesNothing(Due::land, y -> {
            due("-1 harms", y.tell(0, 0, -1), NONE);
            due("1001 harms", y.tell(0, 0, 1001), NONE);
        });
    }

    private static void counts60() {
        sentence("21: its number; NONE, doing nothing, if .. there are 60");
        CrossDawn x = new CrossDawn();
        for (int i = 0; i < 60; i++) {
            due("count " + i, x.tell(0, 0, i), i);
        }
        due("a 61st", x.tell(0, 0, 1000), NONE);
        due("a 61st of another week", x.tell(1, 5, 1000), NONE);
        due("about(7)", x.about(7), 60);
        due("harms()", x.harms(0, 0, 0, 0), 59);
        due("harms()", x.harms(1, 5, 5, 0), 0);
        due("untell(60)", x.untell(60), false);
        due("untell(59)", x.untell(59), true);
        due("harms()", x.harms(0, 0, 0, 0), 58);
        doesNothing(Due::fullLand, y -> due("a 61st", y.tell(2, 0, 1000), NONE));
    }

    private static void untoldOnesStayCounts() {
        sentence("COUNTS, 60 at most (UNTOLD ones, too)");
        CrossDawn x = new CrossDawn();
        for (int i = 0; i < 60; i++) {
            x.tell(0, 0, i);
            x.untell(i);
            due("about(7)", x.about(7), i + 1);
        }
        due("a 61st", x.tell(0, 0, 1), NONE);
        x.later(1);
        due("a 61st", x.tell(0, 0, 1), NONE);
        due("harms()", x.harms(0, 0, 0, 1), 0);
    }

    private static void untellsThatAreNone() {
        sentence("22: false if .. there is none such");
        CrossDawn x = new CrossDawn();
        due("untell(0) of none", x.untell(0), false);
        x.tell(0, 0, 5);
        x.tell(0, 1, 6);
        int[] none = {LOWEST, -1, 2, 59, 60, HIGHEST};
        for (int count : none) {
            due("untell(" + count + ")", x.untell(count), false);
        }
        due("harms()", x.harms(0, 0, 1, 0), 11);
        x.tell(0, 2, 7);
        due("a later one is not untold", x.harms(0, 2, 2, 0), 7);
        due("untell(2)", x.untell(2), true);
        due("untell(0)", x.untell(0), true);
        due("harms()", x.harms(0, 0, 2, 0), 6);
        doesNothing(Due::land, y -> {
            due("untell(-1)", y.untell(-1), false);
            due("untell(3)", y.untell(3), false);
        });
    }

    private static void untoldAlready() {
        sentence("22: false if it is so already");
        CrossDawn x = new CrossDawn();
        x.tell(0, 0, 5);
        x.later(2);
        due("untell(0)", x.untell(0), true);
        due("again", x.untell(0), false);
        x.later(2);
        due("again, later", x.untell(0), false);
        due("known ahead of the first time", x.harms(0, 0, 0, 1), 5);
        due("known on its day", x.harms(0, 0, 0, 2), 0);
        due("known behind it", x.harms(0, 0, 0, 3), 0);
        due("known on the second's day", x.harms(0, 0, 0, 4), 0);
        doesNothing(Due::land, y -> due("untell(1)", y.untell(1), false));
    }

    private static void toldOnADayOrBefore() {
        sentence("of each TOLD on k or before");
        CrossDawn x = new CrossDawn();
        x.later(10);
        x.tell(0, 0, 5);
        x.later(10);
        x.tell(0, 0, 6);
        int[] days = {0, 9, 10, 11, 19, 20, 21};
        int[] want = {0, 0, 5, 5, 5, 6, 6};
        for (int i = 0; i < days.length; i++) {
            due("known on " + days[i], x.harms(0, 0, 0, days[i]), want[i]);
        }
    }

    private static void untoldOnADayOrBefore() {
        sentence("not UNTOLD on k or before");
        CrossDawn x = new CrossDawn();
        x.tell(0, 0, 5);
        x.tell(0, 0, 6);
        x.later(10);
        x.untell(1);
        x.later(10);
        x.untell(0);
        int[] days = {0, 9, 10, 11, 19, 20, 21};
        int[] want = {6, 6, 5, 5, 5, 0, 0};
        for (int i = 0; i < days.length; i++) {
            due("known on " + days[i], x.harms(0, 0, 0, days[i]), want[i]);
        }
    }

    private static void untoldOnTheSameDay() {
        sentence("UNTOLD on a later one, or the same");
        CrossDawn x = new CrossDawn();
        x.later(3);
        x.tell(0, 0, 5);
        due("untell(0)", x.untell(0), true);
        for (int day = 2; day <= 4; day++) {
            due("known on " + day, x.harms(0, 0, 0, day), 0);
        }
        x.tell(0, 0, 6);
        due("told anew on the same", x.harms(0, 0, 0, 3), 6);
    }

    private static void lastCount() {
        sentence("the last COUNT of each");
        CrossDawn x = new CrossDawn();
        x.tell(0, 0, 5);
        x.tell(0, 0, 3);
        due("of two on one day", x.harms(0, 0, 0, 0), 3);
        x.tell(0, 0, 0);
        due("a last one of 0", x.harms(0, 0, 0, 0), 0);
        x.untell(2);
        due("the last being untold", x.harms(0, 0, 0, 0), 3);
        x.untell(0);
        due("an earlier one being untold", x.harms(0, 0, 0, 0), 3);
        x.untell(1);
        due("all being untold", x.harms(0, 0, 0, 0), 0);
    }

    private static void eachWeek() {
        sentence("the sum over weeks");
        CrossDawn x = new CrossDawn();
        x.tell(0, 0, 5);
        x.tell(0, 1, 6);
        x.tell(1, 0, 100);
        x.tell(0, 0, 7);
        due("of two weeks", x.harms(0, 0, 1, 0), 13);
        due("of another kind", x.harms(1, 0, 1, 0), 100);
        due("of a kind without", x.harms(2, 0, 1, 0), 0);
    }

    private static void weeksFromTo() {
        sentence("23: in weeks from .. to");
        CrossDawn x = new CrossDawn();
        int[] weeks = {-50, -49, -1, 0, 1, 49, 50};
        for (int i = 0; i < weeks.length; i++) {
            x.tell(0, weeks[i], 1 << i);
        }
        due("all", x.harms(0, -50, 50, 0), 127);
        due("from -49", x.harms(0, -49, 50, 0), 126);
        due("to 49", x.harms(0, -50, 49, 0), 63);
        due("-1 .. 0", x.harms(0, -1, 0, 0), 12);
        due("0 .. 0", x.harms(0, 0, 0, 0), 8);
        due("-50 .. -50", x.harms(0, -50, -50, 0), 1);
        due("50 .. 50", x.harms(0, 50, 50, 0), 64);
        due("2 .. 48", x.harms(0, 2, 48, 0), 0);
        due("1 .. 49", x.harms(0, 1, 49, 0), 48);
    }

    private static void harmsThatCantBe() {
        sentence("23: NONE if one can't be (from above to, too)");
        CrossDawn x = new CrossDawn();
        x.tell(0, 0, 5);
        int[] kinds = {LOWEST, -1, 4, HIGHEST};
        for (int kind : kinds) {
            due("kind " + kind, x.harms(kind, 0, 0, 0), NONE);
        }
        int[] weeks = {LOWEST, -51, 51, HIGHEST};
        for (int week : weeks) {
            due("from " + week, x.harms(0, week, 50, 0), NONE);
            due("to " + week, x.harms(0, -50, week, 0), NONE);
            due("both " + week, x.harms(0, week, week, 0), NONE);
        }
        due("1 .. 0", x.harms(0, 1, 0, 0), NONE);
        due("0 .. -1", x.harms(0, 0, -1, 0), NONE);
        due("50 .. -50", x.harms(0, 50, -50, 0), NONE);
        due("0 .. 0", x.harms(0, 0, 0, 0), 5);
    }

    private static void anyDayIsAsked() {
        sentence("AS KNOWN on a day k");
        CrossDawn x = new CrossDawn();
        x.tell(0, -1, 0);
        x.tell(0, 0, 5);
        int[] before = {LOWEST, -1};
        for (int k : before) {
            due("harms as known on " + k, x.harms(0, 0, 0, k), 0);
            due("differ as known on " + k, x.differ(0, 1, k), 0);
        }
        int[] since = {0, 1, 100_000, 100_001, HIGHEST};
        for (int k : since) {
            due("harms as known on " + k, x.harms(0, 0, 0, k), 5);
            due("differ as known on " + k, x.differ(0, 1, k), 1);
        }
    }

    private static void mostHarms() {
        sentence("COUNTS, 60 at most: .. so many (0 .. 1000)");
        CrossDawn x = new CrossDawn();
        for (int i = 0; i < 60; i++) {
            x.tell(3, i - 30, 1000);
        }
        due("harms()", x.harms(3, -50, 50, 0), 60_000);
        due("differ()", x.differ(3, 30, 0), 2);
        CrossDawn y = new CrossDawn();
        for (int i = 0; i < 60; i++) {
            y.tell(3, i - 30, i < 30 ? 1000 : 0);
        }
        due("harms()", y.harms(3, -50, 50, 0), 30_000);
        due("differ()", y.differ(3, 30, 0), 1);
    }

    private static void beforeAndAfter() {
        sentence("BEFORE of n weeks are weeks -n .. -1, AFTER 0 .. n - 1");
        CrossDawn x = new CrossDawn();
        int[] weeks = {-3, -2, -1, 0, 1, 2};
        int[] harms = {900, 10, 10, 12, 12, 1000};
        for (int i = 0; i < weeks.length; i++) {
            x.tell(0, weeks[i], harms[i]);
        }
        due("of 1 week: 10 and 12", x.differ(0, 1, 0), 2);
        due("of 2 weeks: 20 and 24", x.differ(0, 2, 0), 2);
        due("of 3 weeks: 920 and 1024", x.differ(0, 3, 0), 1);
        x.tell(0, -3, 1000);
        due("of 3 weeks: 1020 and 1024", x.differ(0, 3, 0), 2);
        x.tell(0, 1, 40);
        due("of 1 week: 10 and 12", x.differ(0, 1, 0), 2);
        due("of 2 weeks: 20 and 52", x.differ(0, 2, 0), 1);
    }

    private static void weeksOfDiffer() {
        sentence("24: by n weeks (1 .. 50) .. NONE if one can't be");
        CrossDawn x = new CrossDawn();
        for (int i = 0; i < 60; i++) {
            x.tell(0, i - 30, 5);
        }
        int[] none = {LOWEST, -1, 0, 51, HIGHEST};
        for (int n : none) {
            due("n = " + n, x.differ(0, n, 0), NONE);
        }
        due("n = 1", x.differ(0, 1, 0), 2);
        due("n = 30, the most there can be counts of", x.differ(0, 30, 0), 2);
        due("n = 31", x.differ(0, 31, 0), 0);
        due("n = 50", x.differ(0, 50, 0), 0);
    }

    private static void kindsOfDiffer() {
        sentence("24: NONE if one can't be (KIND)");
        CrossDawn x = new CrossDawn();
        int[] none = {LOWEST, -1, 4, HIGHEST};
        for (int kind : none) {
            due("kind " + kind, x.differ(kind, 1, 0), NONE);
        }
        for (int kind = 0; kind <= 3; kind++) {
            due("kind " + kind, x.differ(kind, 1, 0), 0);
            x.tell(kind, -1, 0);
            x.tell(kind, 0, 100);
            due("kind " + kind, x.differ(kind, 1, 0), 1);
        }
    }

    /** Before, after, and what is due: where both sides are alike, and one harm off from there. */
    private static final int[][] BOUNDS = {{0, 0, 2}, {0, 3, 2}, {0, 4, 2}, {0, 5, 1}, {4, 11, 2}, {4, 12, 2}, {4, 13, 1},
        {12, 23, 2}, {12, 24, 2}, {12, 25, 1}, {841, 924, 2}, {840, 924, 2}, {839, 924, 1}, {840, 925, 1}};

    private static void moreThanFourTimes() {
        sentence("(AFTER - BEFORE) squared is more than 4 * (AFTER + BEFORE)");
        for (int[] bound : BOUNDS) {
            CrossDawn x = new CrossDawn();
            x.tell(0, -1, bound[0]);
            x.tell(0, 0, bound[1]);
            due(bound[0] + " before, " + bound[1] + " after", x.differ(0, 1, 0), bound[2]);
        }
    }

    private static void fewerAfter() {
        sentence("(AFTER - BEFORE) squared (so that fewer harms after differ, too)");
        for (int[] bound : BOUNDS) {
            CrossDawn x = new CrossDawn();
            x.tell(0, -1, bound[1]);
            x.tell(0, 0, bound[0]);
            due(bound[1] + " before, " + bound[0] + " after", x.differ(0, 1, 0), bound[2]);
        }
    }

    private static void allWeeksHaveACount() {
        sentence("24: 0 if a week has no COUNT (.. and all 2 n weeks have a COUNT)");
        for (int n = 1; n <= 30; n += 29) {
            for (int missing = -n - 1; missing <= n; missing++) {
                CrossDawn x = new CrossDawn();
                for (int week = -n; week < n; week++) {
                    if (week != missing) {
                        x.tell(0, week, week < 0 ? 0 : 100);
                    }
                }
                boolean all = missing < -n || missing >= n;
                due("without week " + missing + " of " + n, x.differ(0, n, 0), all ? 1 : 0);
            }
        }
    }

    private static void zeroIsACount() {
        sentence("0 if a week has no COUNT (one of 0 harms is a COUNT)");
        CrossDawn x = new CrossDawn();
        x.tell(0, -1, 0);
        due("no week 0", x.differ(0, 1, 0), 0);
        x.tell(0, 0, 0);
        due("0 and 0", x.differ(0, 1, 0), 2);
        x.untell(1);
        due("week 0 untold", x.differ(0, 1, 0), 0);
        x.tell(1, 0, 0);
        due("week 0 of another kind", x.differ(0, 1, 0), 0);
    }

    private static void differAsKnown() {
        sentence("24: as known on k");
        CrossDawn x = new CrossDawn();
        x.tell(0, -1, 0);
        x.later(10);
        x.tell(0, 0, 4);
        x.later(10);
        x.tell(0, 0, 5);
        x.later(10);
        x.untell(0);
        int[] days = {0, 9, 10, 19, 20, 29, 30, 31};
        int[] want = {0, 0, 2, 2, 1, 1, 0, 0};
        for (int i = 0; i < days.length; i++) {
            due("on " + days[i], x.differ(0, 1, days[i]), want[i]);
        }
    }
}
