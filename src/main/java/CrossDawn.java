import java.util.Arrays;

/** The office for the night on which a land begins to drive on the other side. */
public final class CrossDawn {
    public static final int NONE = -1;

    private static final int KINDS = 4;
    private static final int DAY_MINUTES = 1440;

    private final Town town;
    private final Tape tape;
    private final Book book;
    private final Parser parser;
    private final Router router;
    private final Roster roster;
    private final Ledger ledger;

    public CrossDawn() {
        town = new Town();
        tape = new Tape();
        book = new Book();
        parser = new Parser(tape);
        router = new Router(town, book);
        roster = new Roster(town);
        ledger = new Ledger();
    }

    public int crossing() {
        return town.addCrossing();
    }

    public int street(int a, int b, int length, boolean both) {
        int number = town.addStreet(a, b, length, both);
        if (number != NONE) {
            router.forget();
            roster.forget();
        }
        return number;
    }

    public boolean hour(int minute) {
        if (!isMinute(minute)) {
            return false;
        }
        town.setHour(minute);
        router.forget();
        return true;
    }

    public boolean corners(int near, int far) {
        if (!isWithin(near, 0, Town.LONGEST_TURN) || !isWithin(far, 0, Town.LONGEST_TURN)) {
            return false;
        }
        town.setCorners(near, far);
        router.forget();
        return true;
    }

    public int turn(int crossing, int from, int to, int minute) {
        if (minute < 0 || from == to) {
            return NONE;
        }
        if (!town.touches(from, crossing) || !town.touches(to, crossing)) {
            return NONE;
        }
        return town.turnMinutes(town.isNear(crossing, from, to, minute));
    }

    public int feed(int a, int b, int c, int d, int e) {
        if (!tape.hasRoomFor(20)) {
            return NONE;
        }
        tape.put(a);
        tape.put(b);
        tape.put(c);
        tape.put(d);
        tape.put(e);
        return tape.length();
    }

    public int end(int n) {
        if (n < 0 || n > tape.length()) {
            return NONE;
        }
        tape.cutTo(n);
        return n;
    }

    public int acts() {
        boolean faultless = parser.parse();
        tape.cutTo(0);
        if (!faultless) {
            return NONE;
        }
        book.copyFrom(parser.draft());
        router.forget();
        return book.size();
    }

    public int fault(int what) {
        switch (what) {
            case 0:
                return parser.faultKind();
            case 1:
                return parser.faultPlace();
            default:
                return NONE;
        }
    }

    public int may(int kind, int street, int minute) {
        if (!isKind(kind) || !town.hasStreet(street) || !isMinute(minute)) {
            return NONE;
        }
        return book.permits(kind, street, minute) ? 1 : 0;
    }

    public int speed(int kind, int street, int minute) {
        if (!isKind(kind) || !town.hasStreet(street) || !isMinute(minute)) {
            return NONE;
        }
        return book.speedOn(kind, street, minute);
    }

    public int fastest(int kind, int from, int to, int minute) {
        if (!isQuestion(kind, from, to, minute)) {
            return NONE;
        }
        router.seek(kind, from, to, minute);
        return router.minutes();
    }

    public int streets(int kind, int from, int to, int minute) {
        if (!isQuestion(kind, from, to, minute)) {
            return NONE;
        }
        router.seek(kind, from, to, minute);
        return router.streetCount();
    }

    public int sign(int crossing, int work) {
        if (!town.hasCrossing(crossing) || !isWithin(work, 1, 60)) {
            return NONE;
        }
        return roster.addSign(crossing, work);
    }

    public int crew(int crossing) {
        if (!town.hasCrossing(crossing)) {
            return NONE;
        }
        return roster.addCrew(crossing);
    }

    public int walk(int a, int b) {
        if (!town.hasCrossing(a) || !town.hasCrossing(b)) {
            return NONE;
        }
        int minutes = town.footMinutes(a, b);
        return minutes >= Town.UNREACHED ? NONE : minutes;
    }

    public int done() {
        return roster.leastMinutes();
    }

    public int order(int sign, int what) {
        if (!roster.hasSign(sign) || roster.leastMinutes() == NONE) {
            return NONE;
        }
        switch (what) {
            case 0:
                return roster.crewOf(sign);
            case 1:
                return roster.countAhead(sign);
            case 2:
                return roster.minuteTurned(sign);
            default:
                return NONE;
        }
    }

    public int later(int days) {
        return isWithin(days, 0, 1000) ? ledger.goOn(days) : NONE;
    }

    public int tell(int kind, int week, int harms) {
        if (!isKind(kind) || !isWeek(week) || !isWithin(harms, 0, 1000)) {
            return NONE;
        }
        return ledger.add(kind, week, harms);
    }

    public boolean untell(int count) {
        return ledger.takeBack(count);
    }

    public int harms(int kind, int from, int to, int k) {
        if (!isKind(kind) || !isWeek(from) || !isWeek(to) || from > to) {
            return NONE;
        }
        return ledger.sum(kind, from, to, k);
    }

    public int differ(int kind, int n, int k) {
        if (!isKind(kind) || !isWithin(n, 1, Ledger.LAST_WEEK)) {
            return NONE;
        }
        return ledger.compare(kind, n, k);
    }

    public int about(int what) {
        switch (what) {
            case 0:
                return town.crossingCount();
            case 1:
                return town.streetCount();
            case 2:
                return town.hourMinute();
            case 3:
                return book.size();
            case 4:
                return roster.signCount();
            case 5:
                return roster.crewCount();
            case 6:
                return ledger.today();
            case 7:
                return ledger.size();
            case 8:
                return tape.length();
            default:
                return NONE;
        }
    }

    private boolean isQuestion(int kind, int from, int to, int minute) {
        return isKind(kind) && town.hasCrossing(from) && town.hasCrossing(to) && isMinute(minute);
    }

    private static boolean isKind(int kind) {
        return isWithin(kind, 0, KINDS - 1);
    }

    private static boolean isMinute(int minute) {
        return isWithin(minute, 0, DAY_MINUTES - 1);
    }

    private static boolean isWeek(int week) {
        return isWithin(week, Ledger.FIRST_WEEK, Ledger.LAST_WEEK);
    }

    private static boolean isWithin(int number, int least, int most) {
        return number >= least && number <= most;
    }

    /**
     * Crossings and streets, the hour and the corners. A street has two lanes: 2 * street leads
     * from its first crossing to its second, 2 * street + 1 back.
     */
    private static final class Town {
        static final int MOST_CROSSINGS = 8;
        static final int MOST_STREETS = 16;
        static final int MOST_LANES = 2 * MOST_STREETS;
        static final int LONGEST_STREET = 60;
        static final int LONGEST_TURN = 9;
        /** Above every sum of lengths, yet small enough that some sums of it don't overflow. */
        static final int UNREACHED = 1_000_000;

        private final int[] firsts = new int[MOST_STREETS];
        private final int[] seconds = new int[MOST_STREETS];
        private final int[] lengths = new int[MOST_STREETS];
        private final boolean[] bothWays = new boolean[MOST_STREETS];
        /** The place of a street around its first and around its second crossing. */
        private final int[] firstPlaces = new int[MOST_STREETS];
        private final int[] secondPlaces = new int[MOST_STREETS];
        private final int[] degrees = new int[MOST_CROSSINGS];
        /** By crossing and place, the lane by which one leaves there. */
        private final int[] around = new int[MOST_CROSSINGS * MOST_STREETS];
        private final int[] foot = new int[MOST_CROSSINGS * MOST_CROSSINGS];
        private int crossings = 0;
        private int streets = 0;
        private int hour = 300;
        private int near = 0;
        private int far = 2;

        Town() {
            Arrays.fill(foot, UNREACHED);
            for (int c = 0; c < MOST_CROSSINGS; c++) {
                foot[c * MOST_CROSSINGS + c] = 0;
            }
        }

        int crossingCount() {
            return crossings;
        }

        int streetCount() {
            return streets;
        }

        int hourMinute() {
            return hour;
        }

        boolean hasCrossing(int crossing) {
            return crossing >= 0 && crossing < crossings;
        }

        boolean hasStreet(int street) {
            return street >= 0 && street < streets;
        }

        void setHour(int minute) {
            hour = minute;
        }

        void setCorners(int nearMinutes, int farMinutes) {
            near = nearMinutes;
            far = farMinutes;
        }

        int addCrossing() {
            if (crossings >= MOST_CROSSINGS) {
                return NONE;
            }
            crossings++;
            return crossings - 1;
        }

        int addStreet(int a, int b, int length, boolean both) {
            if (streets >= MOST_STREETS || !hasCrossing(a) || !hasCrossing(b) || a == b) {
                return NONE;
            }
            if (length < 1 || length > LONGEST_STREET) {
                return NONE;
            }
            int street = streets;
            streets++;
            firsts[street] = a;
            seconds[street] = b;
            lengths[street] = length;
            bothWays[street] = both;
            firstPlaces[street] = layAround(a, 2 * street);
            secondPlaces[street] = layAround(b, 2 * street + 1);
            shortenFootWays(a, b, length);
            return street;
        }

        private int layAround(int crossing, int lane) {
            int place = degrees[crossing];
            around[crossing * MOST_STREETS + place] = lane;
            degrees[crossing] = place + 1;
            return place;
        }

        private void shortenFootWays(int a, int b, int length) {
            for (int from = 0; from < crossings; from++) {
                int toA = footMinutes(from, a);
                int toB = footMinutes(from, b);
                for (int to = 0; to < crossings; to++) {
                    int overAB = toA + length + footMinutes(b, to);
                    int overBA = toB + length + footMinutes(a, to);
                    int best = Math.min(footMinutes(from, to), Math.min(overAB, overBA));
                    foot[from * MOST_CROSSINGS + to] = best;
                }
            }
        }

        /** UNREACHED or more, if none leads there. */
        int footMinutes(int from, int to) {
            return foot[from * MOST_CROSSINGS + to];
        }

        boolean touches(int street, int crossing) {
            return hasStreet(street) && (firsts[street] == crossing || seconds[street] == crossing);
        }

        int degree(int crossing) {
            return degrees[crossing];
        }

        int laneAround(int crossing, int place) {
            return around[crossing * MOST_STREETS + place];
        }

        int lengthOf(int street) {
            return lengths[street];
        }

        int laneEnd(int lane) {
            return lane % 2 == 0 ? seconds[lane / 2] : firsts[lane / 2];
        }

        boolean isOpen(int lane, int minute) {
            boolean back = lane % 2 == 1;
            return bothWays[lane / 2] || back == isOnRight(minute);
        }

        private boolean isOnRight(int minute) {
            return minute >= hour;
        }

        /** How much further round a near turn goes. */
        int nearStep(int crossing, int minute) {
            return isOnRight(minute) ? degrees[crossing] - 1 : 1;
        }

        /** Both streets must touch the crossing, and be different. */
        boolean isNear(int crossing, int from, int to, int minute) {
            int further = placeAt(crossing, to) - placeAt(crossing, from);
            if (further < 0) {
                further += degrees[crossing];
            }
            return further == nearStep(crossing, minute);
        }

        int placeAt(int crossing, int street) {
            return firsts[street] == crossing ? firstPlaces[street] : secondPlaces[street];
        }

        int turnMinutes(boolean isNear) {
            return isNear ? near : far;
        }
    }

    /** The bytes that have been fed and not yet been read as acts. */
    private static final class Tape {
        static final int MOST_BYTES = 800;

        private final int[] bytes = new int[MOST_BYTES];
        private int length = 0;

        int length() {
            return length;
        }

        boolean hasRoomFor(int more) {
            return length + more <= MOST_BYTES;
        }

        void put(int number) {
            for (int shift = 24; shift >= 0 && length < MOST_BYTES; shift -= 8) {
                bytes[length] = (number >>> shift) & 255;
                length++;
            }
        }

        void cutTo(int n) {
            length = n;
        }

        /** NONE outside the tape, so that looking ahead needs no test. */
        int at(int place) {
            return place >= 0 && place < length ? bytes[place] : NONE;
        }
    }

    /** Acts that are free of faults; their sorts and kinds are those of their words. */
    private static final class Book {
        static final int MOST_ACTS = 20;

        private static final int USUAL_SPEED = 5;

        private final int[] sorts = new int[MOST_ACTS];
        private final int[] kinds = new int[MOST_ACTS];
        private final int[] streets = new int[MOST_ACTS];
        private final int[] starts = new int[MOST_ACTS];
        private final int[] stops = new int[MOST_ACTS];
        private final int[] speeds = new int[MOST_ACTS];
        private int size = 0;

        int size() {
            return size;
        }

        boolean isFull() {
            return size >= MOST_ACTS;
        }

        void clear() {
            size = 0;
        }

        void add(int sort, int kind, int street, int start, int stop, int speed) {
            if (isFull()) {
                return;
            }
            sorts[size] = sort;
            kinds[size] = kind;
            streets[size] = street;
            starts[size] = start;
            stops[size] = stop;
            speeds[size] = speed;
            size++;
        }

        void copyFrom(Book other) {
            System.arraycopy(other.sorts, 0, sorts, 0, MOST_ACTS);
            System.arraycopy(other.kinds, 0, kinds, 0, MOST_ACTS);
            System.arraycopy(other.streets, 0, streets, 0, MOST_ACTS);
            System.arraycopy(other.starts, 0, starts, 0, MOST_ACTS);
            System.arraycopy(other.stops, 0, stops, 0, MOST_ACTS);
            System.arraycopy(other.speeds, 0, speeds, 0, MOST_ACTS);
            size = other.size;
        }

        boolean permits(int kind, int street, int minute) {
            for (int act = size - 1; act >= 0; act--) {
                if (sorts[act] != Lexer.LIMIT && isFor(act, kind, street, minute)) {
                    return sorts[act] == Lexer.MAY;
                }
            }
            return true;
        }

        int speedOn(int kind, int street, int minute) {
            for (int act = size - 1; act >= 0; act--) {
                if (sorts[act] == Lexer.LIMIT && isFor(act, kind, street, minute)) {
                    return speeds[act];
                }
            }
            return USUAL_SPEED;
        }

        private boolean isFor(int act, int kind, int street, int minute) {
            return (kinds[act] == Lexer.ALL || kinds[act] == kind)
                && (streets[act] == NONE || streets[act] == street)
                && minute >= starts[act] && minute < stops[act];
        }

        /** The first minute behind this one in which an act begins or ends to be for anything. */
        int nextChange(int minute) {
            int next = Integer.MAX_VALUE;
            for (int act = 0; act < size; act++) {
                if (starts[act] > minute) {
                    next = Math.min(next, starts[act]);
                }
                if (stops[act] > minute) {
                    next = Math.min(next, stops[act]);
                }
            }
            return next;
        }

        int lastChange() {
            int last = 0;
            for (int act = 0; act < size; act++) {
                last = Math.max(last, starts[act]);
                // An end at 1440 never comes: all is as in 1439 from there on.
                if (stops[act] < DAY_MINUTES) {
                    last = Math.max(last, stops[act]);
                }
            }
            return last;
        }
    }

    /** Cuts the tape into tokens. What breaks a rule of theirs is WRONG from where it begins. */
    private static final class Lexer {
        /** The kinds' words are their numbers, and behind them that of all. */
        static final int CAR = 0;
        static final int BUS = 1;
        static final int TRUCK = 2;
        static final int BIKE = 3;
        static final int ALL = 4;
        static final int ON = 5;
        static final int FROM = 6;
        static final int TO = 7;
        static final int MAY = 8;
        static final int NOT = 9;
        static final int LIMIT = 10;
        static final int OTHER_WORD = 11;
        static final int STREET = 12;
        static final int NUMBER = 13;
        static final int SEMICOLON = 14;
        static final int END = 15;
        static final int WRONG = 16;

        /** A token has a byte at least; the end is one more. */
        private static final int MOST_TOKENS = Tape.MOST_BYTES + 1;
        private static final int LONGEST_WORD = 8;
        private static final int MOST_DIGITS = 4;
        private static final int MOST_STREET_DIGITS = 2;

        private final Tape tape;
        private final int[] sorts = new int[MOST_TOKENS];
        private final int[] starts = new int[MOST_TOKENS];
        private final int[] values = new int[MOST_TOKENS];
        private int start = 0;
        private int stop = 0;
        private int value = 0;

        Lexer(Tape tape) {
            this.tape = tape;
        }

        int sortOf(int token) {
            return token < MOST_TOKENS ? sorts[token] : END;
        }

        int startOf(int token) {
            return token < MOST_TOKENS ? starts[token] : NONE;
        }

        /** Of a street or a number. */
        int valueOf(int token) {
            return token < MOST_TOKENS ? values[token] : 0;
        }

        void cut() {
            stop = 0;
            int sort = OTHER_WORD;
            for (int token = 0; token < MOST_TOKENS && sort != END; token++) {
                skipBlanks();
                start = stop;
                value = 0;
                sort = read();
                sorts[token] = sort;
                starts[token] = start;
                values[token] = value;
            }
        }

        private void skipBlanks() {
            while (stop < tape.length() && isBlank(tape.at(stop))) {
                stop++;
            }
        }

        private int read() {
            int c = tape.at(start);
            if (c == NONE) {
                return END;
            }
            if (c == 's' && readStreet()) {
                return STREET;
            }
            if (isLetter(c)) {
                skipLetters();
                return wordSort();
            }
            if (isDigit(c)) {
                return readNumber();
            }
            stop = start + 1;
            return c == ';' ? SEMICOLON : WRONG;
        }

        /** Goes back where there is none: the s begins a word then, and digits are a number. */
        private boolean readStreet() {
            int digits = readDigits(start + 1);
            boolean right = digits >= 1 && digits <= MOST_STREET_DIGITS
                && value < Town.MOST_STREETS && !isLetter(tape.at(stop));
            if (!right) {
                stop = start;
                value = 0;
            }
            return right;
        }

        private int readNumber() {
            int digits = readDigits(start);
            return digits <= MOST_DIGITS && !isLetter(tape.at(stop)) ? NUMBER : WRONG;
        }

        /** How many there are; too many of them make a token wrong, whatever their value. */
        private int readDigits(int from) {
            stop = from;
            while (stop < tape.length() && isDigit(tape.at(stop))) {
                value = value * 10 + tape.at(stop) - '0';
                stop++;
            }
            return stop - from;
        }

        private void skipLetters() {
            while (stop < tape.length() && isLetter(tape.at(stop))) {
                stop++;
            }
        }

        private int wordSort() {
            return stop - start > LONGEST_WORD ? WRONG
                : isWord("car") ? CAR
                : isWord("bus") ? BUS
                : isWord("truck") ? TRUCK
                : isWord("bike") ? BIKE
                : isWord("all") ? ALL
                : isWord("on") ? ON
                : isWord("from") ? FROM
                : isWord("to") ? TO
                : isWord("may") ? MAY
                : isWord("not") ? NOT
                : isWord("limit") ? LIMIT
                : OTHER_WORD;
        }

        private boolean isWord(String word) {
            if (stop - start != word.length()) {
                return false;
            }
            for (int i = 0; i < word.length(); i++) {
                if (tape.at(start + i) != word.charAt(i)) {
                    return false;
                }
            }
            return true;
        }

        private static boolean isBlank(int c) {
            return c == ' ' || c == '\n';
        }

        private static boolean isLetter(int c) {
            return c >= 'a' && c <= 'z';
        }

        private static boolean isDigit(int c) {
            return c >= '0' && c <= '9';
        }
    }

    /**
     * Reads the tape as acts into a draft, one token behind the other. Each fault is at the
     * beginning of a token, so that the first one met, where the reading stops, is the first by
     * its place.
     */
    private static final class Parser {
        private static final int NO_TOKEN = 1;
        private static final int MISPLACED = 2;
        private static final int BAD_NUMBER = 3;
        private static final int HIGHEST_SPEED = 20;

        private final Lexer lexer;
        private final Book draft = new Book();
        private int faultKind = 0;
        private int faultPlace = NONE;
        /** The token that is looked at; it never goes beyond the end. */
        private int token = 0;
        private int number = 0;
        private boolean numberFits = true;
        private int kind = Lexer.ALL;
        private int street = NONE;
        private int start = 0;
        private int stop = DAY_MINUTES;
        private int speed = 0;

        Parser(Tape tape) {
            lexer = new Lexer(tape);
        }

        Book draft() {
            return draft;
        }

        int faultKind() {
            return faultKind;
        }

        int faultPlace() {
            return faultPlace;
        }

        boolean parse() {
            lexer.cut();
            draft.clear();
            token = 0;
            numberFits = true;
            boolean right = true;
            // One act more than there may be, which is then refused at its first word.
            for (int i = 0; i <= Book.MOST_ACTS && right && sortHere() != Lexer.END; i++) {
                right = readAct();
            }
            faultKind = right ? 0 : faultHere();
            faultPlace = right ? NONE : lexer.startOf(token);
            return right;
        }

        private int faultHere() {
            if (!numberFits) {
                return BAD_NUMBER;
            }
            return sortHere() == Lexer.WRONG ? NO_TOKEN : MISPLACED;
        }

        private int sortHere() {
            return lexer.sortOf(token);
        }

        private boolean readAct() {
            int sort = sortHere();
            boolean begins = sort == Lexer.MAY || sort == Lexer.NOT || sort == Lexer.LIMIT;
            if (!begins || draft.isFull()) {
                return false;
            }
            token++;
            kind = Lexer.ALL;
            street = NONE;
            start = 0;
            stop = DAY_MINUTES;
            speed = 0;
            boolean headRight = sort == Lexer.LIMIT ? readLimitHead() : readKind();
            if (!headRight || !readStreet() || !readSpan() || !readOver(Lexer.SEMICOLON)) {
                return false;
            }
            draft.add(sort, kind, street, start, stop, speed);
            return true;
        }

        private boolean readLimitHead() {
            if (!readNumber(1, HIGHEST_SPEED)) {
                return false;
            }
            speed = number;
            readKind();
            return true;
        }

        private boolean readKind() {
            int sort = sortHere();
            if (sort < Lexer.CAR || sort > Lexer.ALL) {
                return false;
            }
            kind = sort;
            token++;
            return true;
        }

        private boolean readStreet() {
            if (!readOver(Lexer.ON)) {
                return true;
            }
            street = lexer.valueOf(token);
            return readOver(Lexer.STREET);
        }

        private boolean readSpan() {
            if (!readOver(Lexer.FROM)) {
                return true;
            }
            if (!readNumber(0, DAY_MINUTES)) {
                return false;
            }
            start = number;
            if (!readOver(Lexer.TO) || !readNumber(start + 1, DAY_MINUTES)) {
                return false;
            }
            stop = number;
            return true;
        }

        private boolean readNumber(int least, int most) {
            if (sortHere() != Lexer.NUMBER) {
                return false;
            }
            number = lexer.valueOf(token);
            numberFits = number >= least && number <= most;
            if (numberFits) {
                token++;
            }
            return numberFits;
        }

        private boolean readOver(int sort) {
            if (sortHere() != sort) {
                return false;
            }
            token++;
            return true;
        }
    }

    /** How long each lane takes a kind that enters it in a minute; 0 where it can't. */
    private static final class Timetable {
        private final Town town;
        private final Book book;
        private final int[] minutes = new int[Town.MOST_LANES];
        private int goodUntil = 0;

        Timetable(Town town, Book book) {
            this.town = town;
            this.book = book;
        }

        int minutesOn(int lane) {
            return minutes[lane];
        }

        void begin() {
            goodUntil = 0;
        }

        /** Minutes only go on from one begin to the next, so that most need no new row. */
        void moveTo(int kind, int minute) {
            int asIn = Math.min(minute, DAY_MINUTES - 1);
            if (asIn < goodUntil) {
                return;
            }
            for (int lane = 0; lane < 2 * town.streetCount(); lane++) {
                int speed = book.speedOn(kind, lane / 2, asIn);
                boolean enters = town.isOpen(lane, asIn) && book.permits(kind, lane / 2, asIn);
                minutes[lane] = enters && speed > 0
                    ? (town.lengthOf(lane / 2) * 10 + speed - 1) / speed
                    : 0;
            }
            goodUntil = book.nextChange(asIn);
            if (town.hourMinute() > asIn) {
                goodUntil = Math.min(goodUntil, town.hourMinute());
            }
        }
    }

    /**
     * Looks for ways. One who can't wait may gain by coming later, so that the first arrival on a
     * lane is not enough: every minute in which a lane's end can be reached is gone through.
     */
    private static final class Router {
        private static final int LONGEST_WAY = 3000;
        private static final int LONGEST_STEP = Town.LONGEST_TURN + Town.LONGEST_STREET * 10;
        /** No arrival is more than one step ahead, so that so many minutes are kept at once. */
        private static final int RING = LONGEST_STEP + 1;

        private final Town town;
        private final Book book;
        private final Timetable behindNear;
        private final Timetable behindFar;
        /** By minute and lane, the fewest streets by which its end is reached then; 0: it isn't. */
        private final int[] fewest = new int[RING * Town.MOST_LANES];
        private int waiting = 0;
        /** The lanes gone on from since nothing changes any more: a later arrival gains nothing. */
        private int settled = 0;
        private boolean known = false;
        private int knownKind = 0;
        private int knownFrom = 0;
        private int knownTo = 0;
        private int knownMinute = 0;
        private int minutes = NONE;
        private int streetCount = NONE;

        Router(Town town, Book book) {
            this.town = town;
            this.book = book;
            behindNear = new Timetable(town, book);
            behindFar = new Timetable(town, book);
        }

        int minutes() {
            return minutes;
        }

        int streetCount() {
            return streetCount;
        }

        void forget() {
            known = false;
        }

        void seek(int kind, int from, int to, int minute) {
            if (isKnown(kind, from, to, minute)) {
                return;
            }
            known = true;
            knownKind = kind;
            knownFrom = from;
            knownTo = to;
            knownMinute = minute;
            minutes = NONE;
            streetCount = NONE;
            if (from == to) {
                minutes = 0;
                streetCount = 0;
            } else if (town.footMinutes(from, to) < Town.UNREACHED) {
                search();
            }
        }

        private boolean isKnown(int kind, int from, int to, int minute) {
            return known && kind == knownKind && from == knownFrom && to == knownTo
                && minute == knownMinute;
        }

        private void search() {
            setOut();
            int steadyFrom = Math.max(town.hourMinute(), book.lastChange());
            for (int gone = 1; gone <= LONGEST_WAY && waiting > 0 && minutes == NONE; gone++) {
                goOn(gone, knownMinute + gone >= steadyFrom);
            }
        }

        private void setOut() {
            Arrays.fill(fewest, 0);
            waiting = 0;
            settled = 0;
            behindNear.begin();
            behindFar.begin();
            behindNear.moveTo(knownKind, knownMinute);
            for (int place = 0; place < town.degree(knownFrom); place++) {
                int lane = town.laneAround(knownFrom, place);
                enter(lane, 0, behindNear.minutesOn(lane), 1);
            }
        }

        private void enter(int lane, int gone, int drive, int streets) {
            int arrival = gone + drive;
            if (drive < 1 || arrival > LONGEST_WAY) {
                return;
            }
            int cell = arrival % RING * Town.MOST_LANES + lane;
            if (fewest[cell] == 0) {
                fewest[cell] = streets;
                waiting++;
            } else {
                fewest[cell] = Math.min(fewest[cell], streets);
            }
        }

        private void goOn(int gone, boolean steady) {
            behindNear.moveTo(knownKind, knownMinute + gone + town.turnMinutes(true));
            behindFar.moveTo(knownKind, knownMinute + gone + town.turnMinutes(false));
            int row = gone % RING * Town.MOST_LANES;
            int lanes = 2 * town.streetCount();
            for (int lane = 0; lane < lanes; lane++) {
                int streets = fewest[row + lane];
                if (streets == 0) {
                    continue;
                }
                fewest[row + lane] = 0;
                waiting--;
                if (town.laneEnd(lane) == knownTo) {
                    arrive(gone, streets);
                } else if ((settled >>> lane & 1) == 0) {
                    leave(lane, gone, streets);
                    settled |= steady ? 1 << lane : 0;
                }
            }
        }

        private void arrive(int gone, int streets) {
            minutes = gone;
            streetCount = streetCount == NONE ? streets : Math.min(streetCount, streets);
        }

        private void leave(int lane, int gone, int streets) {
            int crossing = town.laneEnd(lane);
            int degree = town.degree(crossing);
            int nearStep = town.nearStep(crossing, knownMinute + gone);
            int place = town.placeAt(crossing, lane / 2);
            for (int further = 1; further < degree; further++) {
                place = place + 1 < degree ? place + 1 : 0;
                boolean near = further == nearStep;
                int next = town.laneAround(crossing, place);
                int drive = near ? behindNear.minutesOn(next) : behindFar.minutesOn(next);
                enter(next, gone + town.turnMinutes(near), drive, streets + 1);
            }
        }
    }

    /** Signs and crews, and the order in which the last sign is turned soonest. */
    private static final class Roster {
        private static final int MOST_SIGNS = 8;
        private static final int MOST_CREWS = 3;

        private final Town town;
        private final int[] signCrossings = new int[MOST_SIGNS];
        private final int[] works = new int[MOST_SIGNS];
        private final int[] crewCrossings = new int[MOST_CREWS];
        /** By set of signs and crossing, the least minutes to turn them all from there. */
        private final int[] needs = new int[(1 << MOST_SIGNS) * Town.MOST_CROSSINGS];
        private final int[] trial = new int[MOST_SIGNS];
        private final int[] shares = new int[MOST_CREWS];
        private final int[] crews = new int[MOST_SIGNS];
        private final int[] aheads = new int[MOST_SIGNS];
        private final int[] turned = new int[MOST_SIGNS];
        private int signCount = 0;
        private int crewCount = 0;
        private boolean planned = false;
        private int least = NONE;

        Roster(Town town) {
            this.town = town;
        }

        int signCount() {
            return signCount;
        }

        int crewCount() {
            return crewCount;
        }

        boolean hasSign(int sign) {
            return sign >= 0 && sign < signCount;
        }

        int crewOf(int sign) {
            return crews[sign];
        }

        int countAhead(int sign) {
            return aheads[sign];
        }

        int minuteTurned(int sign) {
            return turned[sign];
        }

        void forget() {
            planned = false;
        }

        int addSign(int crossing, int work) {
            if (signCount >= MOST_SIGNS) {
                return NONE;
            }
            signCrossings[signCount] = crossing;
            works[signCount] = work;
            signCount++;
            forget();
            return signCount - 1;
        }

        int addCrew(int crossing) {
            if (crewCount >= MOST_CREWS) {
                return NONE;
            }
            crewCrossings[crewCount] = crossing;
            crewCount++;
            forget();
            return crewCount - 1;
        }

        int leastMinutes() {
            if (!planned) {
                planned = true;
                fillNeeds();
                shareOut();
                for (int crew = 0; crew < crewCount && least != NONE; crew++) {
                    layOrder(crew);
                }
            }
            return least;
        }

        private void fillNeeds() {
            for (int set = 0; set < 1 << signCount; set++) {
                for (int at = 0; at < town.crossingCount(); at++) {
                    needs[set * Town.MOST_CROSSINGS + at] = set == 0 ? 0 : needBySigns(set, at);
                }
            }
        }

        private int needBySigns(int set, int at) {
            int best = Town.UNREACHED;
            for (int sign = 0; sign < signCount; sign++) {
                if (holds(set, sign)) {
                    best = Math.min(best, needIfFirst(set, at, sign));
                }
            }
            return best;
        }

        private int needIfFirst(int set, int at, int sign) {
            return step(at, sign) + need(set & ~(1 << sign), signCrossings[sign]);
        }

        private int step(int at, int sign) {
            return town.footMinutes(at, signCrossings[sign]) + works[sign];
        }

        private int need(int set, int at) {
            return needs[set * Town.MOST_CROSSINGS + at];
        }

        private static boolean holds(int set, int sign) {
            return (set >>> sign & 1) == 1;
        }

        /** Tries go from the least crews of the first signs on, so that the first best one stays. */
        private void shareOut() {
            int best = Town.UNREACHED;
            int tries = signCount == 0 ? 1 : 0;
            if (crewCount > 0) {
                tries = 1;
                for (int sign = 0; sign < signCount; sign++) {
                    tries *= crewCount;
                }
            }
            Arrays.fill(trial, 0);
            for (int i = 0; i < tries; i++) {
                int minutes = weighTrial();
                if (minutes < best) {
                    best = minutes;
                    System.arraycopy(trial, 0, crews, 0, MOST_SIGNS);
                }
                nextTrial();
            }
            least = best < Town.UNREACHED ? best : NONE;
        }

        private int weighTrial() {
            Arrays.fill(shares, 0);
            for (int sign = 0; sign < signCount; sign++) {
                shares[trial[sign]] |= 1 << sign;
            }
            int last = 0;
            for (int crew = 0; crew < crewCount; crew++) {
                last = Math.max(last, need(shares[crew], crewCrossings[crew]));
            }
            return last;
        }

        private void nextTrial() {
            int sign = signCount - 1;
            while (sign >= 0 && trial[sign] >= crewCount - 1) {
                trial[sign] = 0;
                sign--;
            }
            if (sign >= 0) {
                trial[sign]++;
            }
        }

        private void layOrder(int crew) {
            int set = 0;
            for (int sign = 0; sign < signCount; sign++) {
                if (crews[sign] == crew) {
                    set |= 1 << sign;
                }
            }
            int at = crewCrossings[crew];
            int minute = 0;
            for (int ahead = 0; ahead < signCount && set != 0; ahead++) {
                int sign = firstOfBest(set, at);
                minute += step(at, sign);
                aheads[sign] = ahead;
                turned[sign] = minute;
                at = signCrossings[sign];
                set &= ~(1 << sign);
            }
        }

        private int firstOfBest(int set, int at) {
            int best = need(set, at);
            for (int sign = 0; sign < signCount; sign++) {
                if (holds(set, sign) && needIfFirst(set, at, sign) == best) {
                    return sign;
                }
            }
            return 0;
        }
    }

    /** The counts of harms, each with the days on which it was told and untold. */
    private static final class Ledger {
        static final int FIRST_WEEK = -50;
        static final int LAST_WEEK = 50;

        private static final int MOST_COUNTS = 60;
        private static final int LAST_DAY = 100_000;

        private final int[] kinds = new int[MOST_COUNTS];
        private final int[] weeks = new int[MOST_COUNTS];
        private final int[] numbers = new int[MOST_COUNTS];
        private final int[] toldDays = new int[MOST_COUNTS];
        private final int[] untoldDays = new int[MOST_COUNTS];
        private int size = 0;
        private int day = 0;

        int size() {
            return size;
        }

        int today() {
            return day;
        }

        int goOn(int days) {
            if (day + days > LAST_DAY) {
                return NONE;
            }
            day += days;
            return day;
        }

        int add(int kind, int week, int number) {
            if (size >= MOST_COUNTS) {
                return NONE;
            }
            kinds[size] = kind;
            weeks[size] = week;
            numbers[size] = number;
            toldDays[size] = day;
            untoldDays[size] = NONE;
            size++;
            return size - 1;
        }

        boolean takeBack(int count) {
            if (count < 0 || count >= size || untoldDays[count] != NONE) {
                return false;
            }
            untoldDays[count] = day;
            return true;
        }

        int sum(int kind, int from, int to, int k) {
            int sum = 0;
            for (int week = from; week <= to; week++) {
                sum += Math.max(0, known(kind, week, k));
            }
            return sum;
        }

        /** NONE without a count. */
        private int known(int kind, int week, int k) {
            for (int count = size - 1; count >= 0; count--) {
                if (kinds[count] == kind && weeks[count] == week && isKnown(count, k)) {
                    return numbers[count];
                }
            }
            return NONE;
        }

        private boolean isKnown(int count, int k) {
            boolean untold = untoldDays[count] != NONE && untoldDays[count] <= k;
            return toldDays[count] <= k && !untold;
        }

        /** 0 if a week has no count, 1 if they differ beyond doubt, else 2. */
        int compare(int kind, int n, int k) {
            for (int week = -n; week < n; week++) {
                if (known(kind, week, k) == NONE) {
                    return 0;
                }
            }
            long before = sum(kind, -n, -1, k);
            long after = sum(kind, 0, n - 1, k);
            long apart = after - before;
            return apart * apart > 4 * (after + before) ? 1 : 2;
        }
    }
}
