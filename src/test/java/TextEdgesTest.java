/** Promises 7 to 10, and the text in part 2 of the terms: each sentence that names a boundary. */
public final class TextEdgesTest extends Due {
    private static final String ACT = "may car;";
    private static final String BLANKS = " ".repeat(20);

    public static void main(String[] args) {
        bytes800();
        highestFirst();
        behindThoseThereAre();
        endWithinTheTape();
        endDoesNothing();
        firstBytesStay();
        emptyThen();
        texts800();
        noActs();
        actsThereAreStay();
        faultsOfTheLatest();
        whats0And1();
        everyByte();
        words8();
        streetsS0ToS15();
        streetDigits();
        nothingBehindAStreet();
        numbers4();
        noLetterBehindANumber();
        blanksPart();
        blanksPartOrNot();
        asLongAsCanBe();
        minutes0To1440();
        speeds1To20();
        secondAboveFirst();
        acts20();
        act21();
        firstByPlace();
        endOfTheText();
        leastAtOnePlace();
        mayAct();
        limitAct();
        tokensThatCantStandThere();
        wordsThatAreNone();
        finish();
    }

    private static void bytes800() {
        sentence("7: NONE, and nothing comes, if there would be more than 800");
        CrossDawn x = new CrossDawn();
        for (int i = 1; i <= 40; i++) {
            due("feed " + i, feed(x, i == 1 ? ACT + " ".repeat(12) : BLANKS), 20 * i);
        }
        due("a feed of bytes 781 .. 820", feed(x, ""), NONE);
        due("about(8)", x.about(8), 800);
        due("acts(), for no '?' came", x.acts(), 1);

        CrossDawn y = new CrossDawn();
        put(y, ACT + " ".repeat(792));
        due("end(781)", y.end(781), 781);
        due("a feed up to 801", feed(y, ""), NONE);
        due("about(8)", y.about(8), 781);
        due("end(782)", y.end(782), NONE);
        due("end(780)", y.end(780), 780);
        due("a feed up to 800", feed(y, BLANKS), 800);
        due("acts()", y.acts(), 1);
        doesNothing(Due::fullLand, z -> due("too much", feed(z, ""), NONE));
    }

    private static void highestFirst() {
        sentence("7: Twenty bytes .. of each number the highest first");
        for (int place = 0; place < 20; place++) {
            String text = " ".repeat(place) + "\u00ff" + " ".repeat(19 - place);
            CrossDawn x = new CrossDawn();
            due("feed()", feed(x, text), 20);
            due("acts()", x.acts(), NONE);
            due("fault(0) of byte 255 at " + place, x.fault(0), 1);
            due("fault(1) of byte 255 at " + place, x.fault(1), place);
        }
        CrossDawn x = new CrossDawn();
        due("feed()", x.feed(0x6c696d69, 0x74203134, 0x20616c6c, 0x3b202020, 0x2020200a), 20);
        due("acts of 'limit 14 all;'", x.acts(), 1);
        CrossDawn y = new CrossDawn();
        due("feed() of numbers below 0", y.feed(-1, -1, -1, -1, LOWEST), 20);
        due("acts()", y.acts(), NONE);
        due("fault(1)", y.fault(1), 0);
    }

    private static void behindThoseThereAre() {
        sentence("7: Twenty bytes come behind those on the TAPE");
        CrossDawn x = new CrossDawn();
        due("feed()", feed(x, "limit 1"), 20);
        due("end(7)", x.end(7), 7);
        due("feed()", feed(x, "8;                  "), 27);
        due("acts of 'limit 18;'", x.acts(), 1);
        x.crossing();
        x.crossing();
        x.street(0, 1, 1, true);
        due("speed()", x.speed(0, 0, 0), 18);
    }

    private static void endWithinTheTape() {
        sentence("8: n; NONE, doing nothing, if it has not so many, or n is below 0");
        CrossDawn x = new CrossDawn();
        due("end(0) of none", x.end(0), 0);
        due("end(1) of none", x.end(1), NONE);
        feed(x, "");
        int[] none = {LOWEST, -20, -1, 21, 800, HIGHEST};
        for (int n : none) {
            due("end(" + n + ")", x.end(n), NONE);
            due("about(8)", x.about(8), 20);
        }
        int[] some = {20, 20, 19, 1, 0, 0};
        for (int n : some) {
            due("end(" + n + ")", x.end(n), n);
            due("about(8)", x.about(8), n);
        }
        due("end(1) of none", x.end(1), NONE);
    }

    private static void endDoesNothing() {
        sentence("8: NONE, doing nothing");
        doesNothing(Due::land, x -> {
            due("end(-1)", x.end(-1), NONE);
            due("end(13) of 12", x.end(13), NONE);
        });
        doesNothing(Due::fullLand, x -> due("end(801)", x.end(801), NONE));
    }

    private static void firstBytesStay() {
        sentence("8: The TAPE has its first n bytes");
        CrossDawn x = new CrossDawn();
        feed(x, "may car;????????????");
        due("end(8)", x.end(8), 8);
        due("feed() behind", feed(x, BLANKS), 28);
        due("acts()", x.acts(), 1);
        CrossDawn y = new CrossDawn();
        feed(y, "may car;????????????");
        due("end(9)", y.end(9), 9);
        due("acts() of one byte more", y.acts(), NONE);
        due("fault(1)", y.fault(1), 8);
    }

    private static void emptyThen() {
        sentence("9: The TAPE (empty then) is the ACTS");
        CrossDawn x = new CrossDawn();
        String[] texts = {ACT, "may", "?", ""};
        for (String text : texts) {
            read(x, text);
            due("about(8) behind '" + text + "'", x.about(8), 0);
            due("end(1) behind '" + text + "'", x.end(1), NONE);
            due("feed() behind '" + text + "'", feed(x, BLANKS), 20);
            due("acts() behind '" + text + "'", x.acts(), 0);
        }
        fullTape(ACT + " ".repeat(792));
        fullTape("?".repeat(800));
    }

    private static void fullTape(String text) {
        CrossDawn x = new CrossDawn();
        read(x, text);
        for (int i = 1; i <= 40; i++) {
            due("feed " + i + " behind a full one", feed(x, BLANKS), 20 * i);
        }
        due("acts()", x.acts(), 0);
    }

    private static void texts800() {
        sentence("ACTS are a text of at most 800 bytes");
        right(" ".repeat(792) + ACT, 1);
        right(ACT + " ".repeat(792), 1);
        right(" ".repeat(800), 0);
        String act = "not truck on s12 from 1000 to 1440; ";
        right(act.repeat(20) + " ".repeat(800 - 20 * act.length()), 20);
        fault(" ".repeat(793) + "may car", 2, 800);
        fault(" ".repeat(799) + "?", 1, 799);
        fault(";".repeat(800), 2, 0);
        fault("a".repeat(800), 1, 0);
        fault("9".repeat(800), 1, 0);
        fault(" ".repeat(799) + "s", 2, 799);
    }

    private static void noActs() {
        sentence("ACTS are .. (none at first): acts = {act}");
        CrossDawn x = chain(2, 5, true);
        due("about(3)", x.about(3), 0);
        due("may()", x.may(0, 0, 0), 1);
        due("speed()", x.speed(0, 0, 0), 5);
        due("acts() of no text", x.acts(), 0);
        due("acts() of one", read(x, "not all;"), 1);
        due("may()", x.may(0, 0, 0), 0);
        due("acts() of no text", x.acts(), 0);
        due("about(3)", x.about(3), 0);
        due("may()", x.may(0, 0, 0), 1);
        due("acts() of blanks", read(x, " \n "), 0);
    }

    private static void actsThereAreStay() {
        sentence("9: NONE: a FAULT (those there are stay)");
        CrossDawn x = chain(2, 5, true);
        due("acts()", read(x, "not bus; limit 10; limit 4 truck;"), 3);
        String[] faulty = {"may bus; limit 1; ?", "may", "limit 21;", "may bus;".repeat(20) + "may bus;",
            "may bus; not all"};
        for (String text : faulty) {
            due("acts() of '" + text + "'", read(x, text), NONE);
            due("about(3)", x.about(3), 3);
            due("may()", x.may(1, 0, 0), 0);
            due("may()", x.may(0, 0, 0), 1);
            due("speed()", x.speed(0, 0, 0), 10);
            due("speed()", x.speed(2, 0, 0), 4);
            due("fastest()", x.fastest(2, 0, 1, 0), 13);
        }
    }

    private static void faultsOfTheLatest() {
        sentence("10: Of the latest acts() what 0: its FAULT (0), 1: its place (NONE)");
        CrossDawn x = new CrossDawn();
        pair("before any", x, 0, NONE);
        read(x, "may ?");
        pair("of one", x, 1, 4);
        feed(x, "");
        x.end(21);
        x.end(0);
        pair("of the same, behind other calls", x, 1, 4);
        read(x, "limit 0");
        pair("of the next", x, 3, 6);
        read(x, "may car;");
        pair("of a right one", x, 0, NONE);
        read(x, "car");
        pair("behind a right one", x, 2, 0);
        read(x, "");
        pair("of no text", x, 0, NONE);
    }

    private static void pair(String what, CrossDawn x, int fault, int place) {
        due("fault " + what, x.fault(0), fault);
        due("place " + what, x.fault(1), place);
    }

    private static void whats0And1() {
        sentence("10: NONE for another what");
        CrossDawn x = new CrossDawn();
        read(x, "limit 0");
        int[] none = {LOWEST, -1, 2, 3, HIGHEST};
        for (int what : none) {
            due("fault(" + what + ")", x.fault(what), NONE);
        }
    }

    private static void everyByte() {
        sentence("words (a .. z) .. numbers .. sign ; .. blanks (32, 10): other bytes are no TOKEN");
        for (char c = 0; c < 256; c++) {
            String text = String.valueOf(c);
            if (c == 32 || c == 10) {
                right(text, 0);
                right("may" + text + "car" + text + ";", 1);
            } else {
                boolean token = c >= 'a' && c <= 'z' || c >= '0' && c <= '9' || c == ';';
                fault(text, token ? 2 : 1, 0);
                fault("may " + text, token ? 2 : 1, 4);
            }
        }
    }

    private static void words8() {
        sentence("words (a .. z, 8 at most)");
        fault("abcdefgh", 2, 0);
        fault("abcdefghi", 1, 0);
        fault("may abcdefgh;", 2, 4);
        fault("may abcdefghi;", 1, 4);
        fault("zzzzzzzz", 2, 0);
        fault("zzzzzzzzz", 1, 0);
        fault("limitlimit 5;", 1, 0);
        fault("may carcarcar;", 1, 4);
        fault("may car onononon s1;", 2, 8);
        fault("may car ononononon s1;", 1, 8);
        fault("may car;bikebike;", 2, 8);
        fault("may car;bikebikes;", 1, 8);
        fault("ssssssss", 2, 0);
        fault("sssssssss", 1, 0);
        fault("abcdefgh1", 2, 0);
        fault("a", 2, 0);
    }

    private static void streetsS0ToS15() {
        sentence("S (s and one or two digits, 0 .. 15)");
        for (int s = 0; s < 100; s++) {
            String text = "not all on s" + s + ";";
            if (s > 15) {
                fault(text, 2, 11);
                continue;
            }
            right(text, 1);
            if (s < 10) {
                right("not all on s0" + s + ";", 1);
            }
            onlyOn(s, text);
            onlyOn(s, "not all on s" + s / 10 + s % 10 + ";");
        }
    }

    private static void onlyOn(int street, String text) {
        CrossDawn x = star(16);
        read(x, text);
        for (int s = 0; s < 16; s++) {
            due("may on " + s + " with '" + text + "'", x.may(0, s, 0), s == street ? 0 : 1);
        }
    }

    private static void streetDigits() {
        sentence("S (s and one or two digits");
        fault("may car on s;", 2, 11);
        fault("may car on s 1;", 2, 11);
        right("may car on s1;", 1);
        right("may car on s01;", 1);
        fault("may car on s001;", 2, 11);
        fault("may car on s010;", 2, 11);
        fault("may car on s150;", 2, 11);
        fault("may car on s0000;", 2, 11);
        fault("may car on s00000;", 2, 11);
        fault("may car on s12345678;", 2, 11);
        fault("may car on s1234567890abcdefghij;", 2, 11);
        fault("may car on S1;", 1, 11);
        fault("may car on 1;", 2, 11);
        fault("may car on ss1;", 2, 11);
    }

    private static void nothingBehindAStreet() {
        sentence("S (.. no letter or digit behind)");
        fault("may car on s1a;", 2, 11);
        fault("may car on s15z;", 2, 11);
        fault("may car on s1from 0 to 1;", 2, 11);
        fault("may car on s151;", 2, 11);
        right("may car on s1 from 0 to 1;", 1);
        right("may car on s15\n;", 1);
        right("may car on s15;", 1);
        fault("may car on s15?", 1, 14);
        fault("may car on s15", 2, 14);
        fault("may car on s15 5", 2, 15);
    }

    private static void numbers4() {
        sentence("numbers (1 to 4 digits)");
        right("limit 5;", 1);
        right("limit 05;", 1);
        right("limit 005;", 1);
        right("limit 0005;", 1);
        fault("limit 00005;", 1, 6);
        fault("limit 000005;", 1, 6);
        fault("limit 9999;", 3, 6);
        fault("limit 10000;", 1, 6);
        right("may car from 0000 to 0001;", 1);
        fault("may car from 00000 to 1;", 1, 13);
        fault("may car from 0 to 00001;", 1, 18);
        fault("may car from 0 to 4294967297;", 1, 18);
        CrossDawn x = chain(2, 5, true);
        due("acts()", read(x, "limit 0012;"), 1);
        due("speed()", x.speed(0, 0, 0), 12);
    }

    private static void noLetterBehindANumber() {
        sentence("no letter directly behind a number");
        fault("limit 5car;", 1, 6);
        fault("limit 5a", 1, 6);
        fault("limit 5z", 1, 6);
        fault("limit 0005z", 1, 6);
        fault("limit 5on s1;", 1, 6);
        fault("limit 5s1;", 1, 6);
        fault("may car from 1to 2;", 1, 13);
        fault("may car from 1 to 2s;", 1, 18);
        right("limit 5 car;", 1);
        right("limit 5\ncar;", 1);
        right("limit 5;may car;", 2);
        fault("limit 5Z;", 1, 7);
        fault("limit 5?", 1, 7);
    }

    private static void blanksPart() {
        sentence("blanks (32, 10) part them");
        right("may car ;", 1);
        right("may\ncar\n;", 1);
        right("  may \n\n car  on  s1  from  1  to  2  ;  ", 1);
        fault("maycar;", 2, 0);
        fault("m ay car;", 2, 0);
        fault("limit 1 2;", 2, 8);
        fault("may car on s1 5;", 2, 14);
        fault("may\tcar;", 1, 3);
        fault("may\rcar;", 1, 3);
        fault("may\u000bcar;", 1, 3);
        fault("may\u00a0car;", 1, 3);
        fault("may\0car;", 1, 3);
    }

    private static void blanksPartOrNot() {
        sentence("blanks (32, 10) part them or not");
        right("may car;not bus;limit5;limit6 bike;", 4);
        right("may car from0 to1440;", 1);
        right("limit20;may car on s5;", 2);
        fault("may car5;", 2, 7);
        fault("may bus1;", 2, 7);
        fault("may;car", 2, 3);
        fault("may car;;", 2, 8);
    }

    private static void asLongAsCanBe() {
        sentence("each is as long as can be");
        CrossDawn x = star(16);
        due("acts()", read(x, "limit 12; not all on s15;"), 2);
        due("speed()", x.speed(0, 0, 0), 12);
        due("may on 15", x.may(0, 15, 0), 0);
        due("may on 1", x.may(0, 1, 0), 1);
        fault("mayall;", 2, 0);
        fault("notcar;", 2, 0);
        fault("may cars;", 2, 4);
        fault("may carbus;", 2, 4);
        fault("may car ons1;", 2, 8);
        fault("limit 201;", 3, 6);
        fault("may car from 14401 to 2;", 1, 13);
        fault("may car from 0 to 1441;", 3, 18);
    }

    private static void minutes0To1440() {
        sentence("M 0 .. 1440");
        right("may car from 0 to 1;", 1);
        right("may car from 0 to 1440;", 1);
        right("may car from 1439 to 1440;", 1);
        fault("may car from 1441 to 1442;", 3, 13);
        fault("may car from 9999 to 1;", 3, 13);
        fault("may car from 0 to 1441;", 3, 18);
        fault("may car from 0 to 9999;", 3, 18);
        right("limit 5 from 0 to 1440;", 1);
        fault("limit 5 from 1441 to 1440;", 3, 13);
        fault("limit 5 from 0 to 1441;", 3, 18);
        // The first can be, though no second then can.
        fault("may car from 1440 to 1440;", 3, 21);
        fault("may car from 1440 to 1441;", 3, 21);
        fault("may car from 1440 ?", 1, 18);
    }

    private static void speeds1To20() {
        sentence("N 1 .. 20");
        CrossDawn x = chain(2, 5, true);
        for (int n = 1; n <= 20; n++) {
            due("acts() of limit " + n, read(x, "limit " + n + ";"), 1);
            due("speed()", x.speed(0, 0, 0), n);
        }
        fault("limit 0;", 3, 6);
        fault("limit 0000;", 3, 6);
        fault("limit 21;", 3, 6);
        fault("limit 9999;", 3, 6);
        due("acts() of limit 0", read(x, "limit 0;"), NONE);
        due("acts() of limit 21", read(x, "limit 21;"), NONE);
        due("speed()", x.speed(0, 0, 0), 20);
    }

    private static void secondAboveFirst() {
        sentence("3 .. a second M that is not above the first");
        int[] firsts = {0, 1, 719, 1438, 1439};
        for (int first : firsts) {
            String head = "not all from " + first + " to ";
            right(head + (first + 1) + ";", 1);
            right(head + "1440;", 1);
            fault(head + first + ";", 3, head.length());
            fault("limit 5 from " + first + " to " + first + ";", 3, head.length());
            if (first > 0) {
                fault(head + (first - 1) + ";", 3, head.length());
                fault(head + "0;", 3, head.length());
            }
        }
    }

    private static void acts20() {
        sentence("At most 20 acts");
        right("limit 5;".repeat(19), 19);
        right("limit 5;".repeat(20), 20);
        right("limit 5;".repeat(20) + " \n ", 20);
        right("limit 5;\n".repeat(20), 20);
        fault("limit 5;".repeat(21), 2, 160);
        CrossDawn x = chain(2, 5, true);
        due("acts()", read(x, "may car;".repeat(19) + "limit 20;"), 20);
        due("speed() by the 20th", x.speed(0, 0, 0), 20);
        due("acts() with a 21st", read(x, "limit 7;".repeat(21)), NONE);
        due("about(3)", x.about(3), 20);
        due("acts() of 20 again", read(x, "limit 7;".repeat(20)), 20);
        due("acts() of 1", read(x, "limit 8;"), 1);
        due("about(3)", x.about(3), 1);
    }

    private static void act21() {
        sentence("2 one that can't stand there (a 21st act: at its first word)");
        String twenty = "may car;".repeat(20);
        fault(twenty + "may", 2, 160);
        fault(twenty + "   not all;", 2, 163);
        fault(twenty + "\nlimit 0;", 2, 161);
        fault(twenty + "limit ?", 2, 160);
        fault(twenty + "may car;".repeat(80), 2, 160);
        fault(twenty + ";", 2, 160);
        fault(twenty + "5", 2, 160);
    }

    private static void firstByPlace() {
        sentence("FAULTS, the first by its place (bytes from 0");
        fault("? may", 1, 0);
        fault("car ?", 2, 0);
        fault("limit 0 ?", 3, 6);
        fault("limit ? 0", 1, 6);
        fault("limit 0 car car", 3, 6);
        fault("limit car 0", 2, 6);
        fault("may car; may ? limit 0;", 1, 13);
        fault("may car from 5 to 5 ?", 3, 18);
        fault("may car from 5 ? 5", 1, 15);
        fault("may car from 1441 to 0", 3, 13);
        fault("limit 21; limit 0; ?", 3, 6);
        fault("limit 20; limit 0; ?", 3, 16);
    }

    private static void endOfTheText() {
        sentence("the end: the text's length");
        String[] begun = {"may", "may car", "may car on", "may car on s1", "may car from", "may car from 1",
            "may car from 1 to", "may car from 1 to 2", "limit", "limit 5", "limit 5 car", "limit 5 on s1",
            "not all; not"};
        for (String text : begun) {
            fault(text, 2, text.length());
            fault(text + "  \n", 2, text.length() + 3);
        }
    }

    private static void leastAtOnePlace() {
        sentence("at one place the least");
        fault("limit 99999;", 1, 6);
        fault("may 99999;", 1, 4);
        fault("may 9999;", 2, 4);
        fault("may car 1441;", 2, 8);
        fault("limit 0x;", 1, 6);
        fault("limit 21car;", 1, 6);
        fault("may car from 5 to 4x;", 1, 18);
        fault("abcdefghijkl", 1, 0);
        fault("may car;".repeat(20) + "?", 1, 160);
        fault("may car;".repeat(20) + "abcdefghi", 1, 160);
        fault("may car;".repeat(20) + "99999", 1, 160);
        fault("may car;".repeat(20) + "9999", 2, 160);
    }

    private static void mayAct() {
        sentence("act = (may | not) KIND [on S] [from M to M] ;");
        String[] firsts = {"may", "not"};
        String[] kinds = {"car", "bus", "truck", "bike", "all"};
        for (String first : firsts) {
            for (String kind : kinds) {
                String head = first + " " + kind;
                right(head + ";", 1);
                right(head + " on s1;", 1);
                right(head + " from 1 to 2;", 1);
                right(head + " on s1 from 1 to 2;", 1);
                fault(head + " from 1 to 2 on s1;", 2, head.length() + 13);
                fault(head + " on s1 on s1;", 2, head.length() + 7);
                fault(head + " all;", 2, head.length() + 1);
            }
            fault(first + ";", 2, 3);
            fault(first + " on s1;", 2, 4);
            fault(first + " 5 car;", 2, 4);
            fault(first + " tram;", 2, 4);
        }
    }

    private static void limitAct() {
        sentence("limit N [KIND] [on S] [from M to M] ;");
        String[] kinds = {"", " car", " bus", " truck", " bike", " all"};
        for (String kind : kinds) {
            String head = "limit 5" + kind;
            right(head + ";", 1);
            right(head + " on s1;", 1);
            right(head + " from 1 to 2;", 1);
            right(head + " on s1 from 1 to 2;", 1);
            fault(head + " on s1 car;", 2, head.length() + 7);
            fault(head + " from 1 to 2 car;", 2, head.length() + 13);
            fault(head + " 6;", 2, head.length() + 1);
        }
        fault("limit;", 2, 5);
        fault("limit car;", 2, 6);
        fault("limit on s1;", 2, 6);
        fault("limit s1;", 2, 6);
    }

    /** What can be begun, and the tokens that can stand behind it. */
    private static final String[][] BEGUN = {{"", "may not limit"}, {"may ", "car bus truck bike all"},
        {"not ", "car bus truck bike all"}, {"limit ", "7"}, {"limit 5 ", "car bus truck bike all on from ;"},
        {"limit 5 bus ", "on from ;"}, {"may car ", "on from ;"}, {"may all on ", "s1"}, {"not bus on s2 ", "from ;"},
        {"limit 5 on ", "s1"}, {"limit 5 on s2 ", "from ;"}, {"may car from ", "7"}, {"may car from 5 ", "to"},
        {"may car from 5 to ", "7"}, {"may car from 5 to 6 ", ";"}, {"limit 5 from ", "7"}, {"limit 5 from 5 ", "to"},
        {"limit 5 from 5 to ", "7"}, {"limit 5 from 5 to 6 ", ";"}, {"may car;", "may not limit"}};

    private static void tokensThatCantStandThere() {
        sentence("2 one that can't stand there");
        String[] tokens = "may not limit car bus truck bike all on from to s1 7 ; tram s n".split(" ");
        for (String[] begun : BEGUN) {
            for (String token : tokens) {
                String text = begun[0] + token;
                boolean stands = (" " + begun[1] + " ").contains(" " + token + " ");
                if (stands && token.equals(";")) {
                    right(text, 1);
                } else {
                    fault(text, 2, stands ? text.length() : begun[0].length());
                }
            }
        }
    }

    private static void wordsThatAreNone() {
        sentence("2 one that can't stand there (words that are nearly others)");
        String[] words = {"may", "not", "limit", "car", "bus", "truck", "bike", "all", "on", "from", "to"};
        String[] begun = {"", "", "", "may ", "may ", "may ", "may ", "may ", "may car ", "may car ", "may car from 5 "};
        for (int i = 0; i < words.length; i++) {
            int place = begun[i].length();
            for (int j = 0; j < words[i].length(); j++) {
                fault(begun[i] + words[i].substring(0, j) + "x" + words[i].substring(j + 1), 2, place);
                fault(begun[i] + words[i].substring(0, j) + words[i].substring(j + 1), 2, place);
            }
            fault(begun[i] + words[i] + words[i].charAt(0), 2, place);
            fault(begun[i] + words[i].toUpperCase(), 1, place);
        }
    }
}
