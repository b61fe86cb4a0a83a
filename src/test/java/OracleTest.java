import java.util.ArrayList;
import java.util.Arrays;
import java.util.List;
import java.util.Random;
import java.util.regex.Matcher;
import java.util.regex.Pattern;

/** Many made-up states, each asked of the class and of a slow model that is written differently. */
public final class OracleTest {
    private static final String[] KINDS = {"car", "bus", "truck", "bike", "all"};
    private static final Random RANDOM = new Random(20261117);
    private static int wrong = 0;
    private static int asked = 0;

    public static void main(String[] args) {
        for (int i = 0; i < 300; i++) {
            ways();
        }
        for (int i = 0; i < 400; i++) {
            orders();
        }
        for (int i = 0; i < 60_000; i++) {
            texts();
        }
        for (int i = 0; i < 300; i++) {
            harms();
        }
        System.out.println(wrong == 0 ? "all " + asked + " answers are as the model's"
            : wrong + " answers are not the model's");
        if (wrong != 0) {
            System.exit(1);
        }
    }

    private static void due(String what, long got, long want) {
        asked++;
        if (got != want) {
            wrong++;
            if (wrong < 50) {
                System.out.println(what + ": answered " + got + ", the model's is " + want);
            }
        }
    }

    private static int any(int least, int most) {
        return least + RANDOM.nextInt(most - least + 1);
    }

    private static int read(CrossDawn x, String text) {
        x.end(0);
        byte[] bytes = Arrays.copyOf(text.getBytes(java.nio.charset.StandardCharsets.ISO_8859_1),
            (text.length() + 19) / 20 * 20);
        for (int i = 0; i < bytes.length; i += 20) {
            int[] n = new int[5];
            for (int j = 0; j < 20; j++) {
                n[j / 4] = n[j / 4] << 8 | bytes[i + j] & 255;
            }
            x.feed(n[0], n[1], n[2], n[3], n[4]);
        }
        x.end(text.length());
        return x.acts();
    }

    // Ways.

    private record Street(int a, int b, int length, boolean both) {
    }

    private record Act(int speed, boolean may, int kind, int street, int from, int to) {
        boolean isFor(int k, int s, int minute) {
            return (kind == 4 || kind == k) && (street < 0 || street == s) && from <= minute && minute < to;
        }

        String text() {
            return (speed > 0 ? "limit " + speed : may ? "may" : "not") + " " + KINDS[kind]
                + (street < 0 ? "" : " on s" + street)
                + (from == 0 && to == 1440 ? "" : " from " + from + " to " + to) + ";";
        }
    }

    private static final class Land {
        int crossings;
        final List<Street> streets = new ArrayList<>();
        final List<Act> acts = new ArrayList<>();
        int hour = 300;
        int near = 0;
        int far = 2;

        int may(int kind, int street, int minute) {
            boolean may = true;
            for (Act act : acts) {
                if (act.speed == 0 && act.isFor(kind, street, minute)) {
                    may = act.may;
                }
            }
            return may ? 1 : 0;
        }

        int speed(int kind, int street, int minute) {
            int speed = 5;
            for (Act act : acts) {
                if (act.speed > 0 && act.isFor(kind, street, minute)) {
                    speed = act.speed;
                }
            }
            return speed;
        }

        int turn(int crossing, int from, int to, int minute) {
            List<Integer> round = new ArrayList<>();
            for (int s = 0; s < streets.size(); s++) {
                if (streets.get(s).a == crossing || streets.get(s).b == crossing) {
                    round.add(s);
                }
            }
            int i = round.indexOf(from);
            int j = round.indexOf(to);
            if (i < 0 || j < 0 || i == j) {
                return -1;
            }
            int n = round.size();
            int k = Math.floorMod(j - i, n);
            return k == (minute < hour ? 1 : n - 1) ? near : far;
        }

        /** Minutes and streets of the fastest way, by every minute in which one can be anywhere. */
        int[] way(int kind, int from, int to, int minute) {
            if (from == to) {
                return new int[] {0, 0};
            }
            int[][][] fewest = new int[3001][crossings][streets.size() + 1];
            fewest[0][from][streets.size()] = 1;
            for (int gone = 0; gone <= 3000; gone++) {
                int best = Arrays.stream(fewest[gone][to]).filter(f -> f > 0).min().orElse(0);
                if (best > 0) {
                    return new int[] {gone, best - 1};
                }
                for (int at = 0; at < crossings; at++) {
                    for (int by = 0; by <= streets.size(); by++) {
                        if (fewest[gone][at][by] > 0) {
                            goOn(fewest, kind, minute, gone, at, by);
                        }
                    }
                }
            }
            return new int[] {-1, -1};
        }

        private void goOn(int[][][] fewest, int kind, int minute, int gone, int at, int by) {
            for (int s = 0; s < streets.size(); s++) {
                Street street = streets.get(s);
                int turn = by == streets.size() ? 0 : turn(at, by, s, minute + gone);
                if (turn < 0 || street.a != at && street.b != at) {
                    continue;
                }
                int enters = Math.min(1439, minute + gone + turn);
                boolean forward = street.a == at;
                if (!street.both && forward != enters < hour || may(kind, s, enters) == 0) {
                    continue;
                }
                int arrival = gone + turn
                    + (int) Math.ceil(street.length * 10.0 / speed(kind, s, enters));
                int there = forward ? street.b : street.a;
                if (arrival <= 3000) {
                    int had = fewest[arrival][there][s];
                    int has = fewest[gone][at][by] + 1;
                    fewest[arrival][there][s] = had == 0 ? has : Math.min(had, has);
                }
            }
        }
    }

    private static void ways() {
        Land land = new Land();
        CrossDawn x = new CrossDawn();
        land.crossings = any(2, 8);
        for (int i = 0; i < land.crossings; i++) {
            x.crossing();
        }
        int streets = any(1, 16);
        int longest = RANDOM.nextBoolean() ? 6 : 60;
        while (land.streets.size() < streets) {
            int a = any(0, land.crossings - 1);
            int b = any(0, land.crossings - 1);
            if (a != b) {
                Street s = new Street(a, b, any(1, longest), any(0, 2) > 0);
                land.streets.add(s);
                x.street(a, b, s.length, s.both);
            }
        }
        for (int round = 0; round < 3; round++) {
            if (any(0, 1) == 1) {
                land.hour = any(0, 3) == 0 ? any(1300, 1439) : any(0, 400);
                x.hour(land.hour);
            }
            if (any(0, 1) == 1) {
                land.near = any(0, 9);
                land.far = any(0, 9);
                x.corners(land.near, land.far);
            }
            acts(land, x);
            for (int i = 0; i < 12; i++) {
                askWay(land, x);
            }
        }
    }

    private static void acts(Land land, CrossDawn x) {
        land.acts.clear();
        StringBuilder text = new StringBuilder();
        int count = any(0, 14);
        int latest = RANDOM.nextBoolean() ? 200 : 1440;
        for (int i = 0; i < count; i++) {
            int from = any(0, 2) == 0 ? 0 : any(0, latest - 1);
            int to = from == 0 ? 1440 : any(from + 1, latest);
            int speed = any(0, 1) == 0 ? 0 : any(1, 20);
            int street = any(0, 3) == 0 ? -1 : any(0, land.streets.size() - 1);
            Act act = new Act(speed, any(0, 1) == 1, any(0, 4), street, from, to);
            land.acts.add(act);
            text.append(act.text());
        }
        due("acts", read(x, text.toString()), count);
    }

    private static void askWay(Land land, CrossDawn x) {
        int kind = any(0, 3);
        int from = any(0, land.crossings - 1);
        int to = any(0, land.crossings - 1);
        int minute = any(0, 3) == 0 ? any(0, 1439) : any(0, 300);
        int street = any(0, land.streets.size() - 1);
        int[] way = land.way(kind, from, to, minute);
        due("fastest", x.fastest(kind, from, to, minute), way[0]);
        due("streets", x.streets(kind, from, to, minute), way[1]);
        due("may", x.may(kind, street, minute), land.may(kind, street, minute));
        due("speed", x.speed(kind, street, minute), land.speed(kind, street, minute));
        int other = any(0, land.streets.size() - 1);
        due("turn", x.turn(from, street, other, minute), land.turn(from, street, other, minute));
    }

    // Orders.

    private static final int NEVER = 1 << 20;

    private static final class Work {
        int[][] walk;
        int[] places;
        int[] works;
        int[] crews;
        int bestMinutes = NEVER;
        int[] bestCrews;

        void share(int[] by, int sign) {
            if (sign == by.length) {
                int last = 0;
                for (int c = 0; c < crews.length; c++) {
                    int[] order = bestOrder(by, c);
                    last = Math.max(last, order == null ? NEVER : minutes(order, c, order.length));
                }
                if (last < bestMinutes) {
                    bestMinutes = last;
                    bestCrews = by.clone();
                }
                return;
            }
            for (int c = 0; c < crews.length; c++) {
                by[sign] = c;
                share(by, sign + 1);
            }
        }

        int minutes(int[] order, int crew, int upTo) {
            int at = crews[crew];
            int minutes = 0;
            for (int i = 0; i < upTo; i++) {
                minutes = Math.min(NEVER, minutes + walk[at][places[order[i]]] + works[order[i]]);
                at = places[order[i]];
            }
            return minutes;
        }

        int[] bestOrder(int[] by, int crew) {
            List<Integer> own = new ArrayList<>();
            for (int s = 0; s < by.length; s++) {
                if (by[s] == crew) {
                    own.add(s);
                }
            }
            int[][] best = new int[1][];
            permute(new int[own.size()], 0, own, crew, best);
            return best[0];
        }

        void permute(int[] order, int filled, List<Integer> left, int crew, int[][] best) {
            if (left.isEmpty()) {
                int minutes = minutes(order, crew, filled);
                int sofar = best[0] == null ? NEVER : minutes(best[0], crew, filled);
                if (minutes < sofar) {
                    best[0] = order.clone();
                }
                return;
            }
            for (int i = 0; i < left.size(); i++) {
                List<Integer> rest = new ArrayList<>(left);
                order[filled] = rest.remove(i);
                permute(order, filled + 1, rest, crew, best);
            }
        }
    }

    private static void orders() {
        CrossDawn x = new CrossDawn();
        int crossings = any(1, 8);
        for (int i = 0; i < crossings; i++) {
            x.crossing();
        }
        Work work = new Work();
        work.walk = walks(x, crossings);
        work.places = new int[any(0, 6)];
        work.works = new int[work.places.length];
        work.crews = new int[any(0, 3)];
        int hardest = RANDOM.nextBoolean() ? 4 : 60;
        for (int s = 0; s < work.places.length; s++) {
            work.places[s] = any(0, crossings - 1);
            work.works[s] = any(1, hardest);
            x.sign(work.places[s], work.works[s]);
        }
        for (int c = 0; c < work.crews.length; c++) {
            work.crews[c] = any(0, crossings - 1);
            x.crew(work.crews[c]);
        }
        if (work.crews.length == 0) {
            due("done without crews", x.done(), work.places.length == 0 ? 0 : -1);
            return;
        }
        work.share(new int[work.places.length], 0);
        boolean none = work.bestMinutes >= NEVER;
        due("done", x.done(), none ? -1 : work.bestMinutes);
        for (int s = 0; s < work.places.length; s++) {
            if (none) {
                due("order of none", x.order(s, any(0, 2)), -1);
                continue;
            }
            int crew = work.bestCrews[s];
            int[] order = work.bestOrder(work.bestCrews, crew);
            int ahead = 0;
            while (order[ahead] != s) {
                ahead++;
            }
            due("crew of a sign", x.order(s, 0), crew);
            due("signs ahead", x.order(s, 1), ahead);
            due("minute of a sign", x.order(s, 2), work.minutes(order, crew, ahead + 1));
        }
    }

    private static int[][] walks(CrossDawn x, int crossings) {
        int[][] walk = new int[crossings][crossings];
        for (int a = 0; a < crossings; a++) {
            Arrays.fill(walk[a], NEVER);
            walk[a][a] = 0;
        }
        int longest = RANDOM.nextBoolean() ? 3 : 60;
        for (int i = any(0, 16); i > 0; i--) {
            int a = any(0, crossings - 1);
            int b = any(0, crossings - 1);
            int length = any(1, longest);
            if (x.street(a, b, length, RANDOM.nextBoolean()) >= 0) {
                walk[a][b] = Math.min(walk[a][b], length);
                walk[b][a] = walk[a][b];
            }
        }
        for (int over = 0; over < crossings; over++) {
            for (int a = 0; a < crossings; a++) {
                for (int b = 0; b < crossings; b++) {
                    walk[a][b] = Math.min(walk[a][b], walk[a][over] + walk[over][b]);
                }
            }
        }
        for (int a = 0; a < crossings; a++) {
            for (int b = 0; b < crossings; b++) {
                due("walk", x.walk(a, b), walk[a][b] >= NEVER ? -1 : walk[a][b]);
            }
        }
        return walk;
    }

    // Texts and their faults.

    private static final String[] PIECES = {"may", "not", "limit", "car", "bus", "truck", "bike", "all",
        "on", "from", "to", ";", "s0", "s15", "s16", "s7", "s", "s123", "s1x", "0", "1", "20", "21", "1440",
        "1441", "00005", "12345", "5", "7x", "abcdefgh", "abcdefghi", "?", "\t", "A", "\u00ff"};
    /** Groups: 1 street, 2 number, 3 word, 4 semicolon; nothing else is a token. */
    private static final Pattern TOKEN = Pattern.compile(
        "(s(?:0?[0-9]|1[0-5])(?![a-z0-9]))|([0-9]{1,4}(?![a-z0-9]))|([a-z]{1,8}(?![a-z]))|(;)");

    private static void texts() {
        StringBuilder text = new StringBuilder();
        int acts = any(0, 9) == 0 ? any(17, 22) : any(0, 3);
        for (int i = 0; i < acts; i++) {
            text.append(act(acts > 3));
        }
        if (any(0, 2) > 0 && text.length() > 0) {
            int at = any(0, text.length() - 1);
            String piece = PIECES[any(0, PIECES.length - 1)];
            switch (any(0, 3)) {
                case 0 -> text.deleteCharAt(at);
                case 1 -> text.insert(at, piece);
                case 2 -> text.replace(at, Math.min(text.length(), at + piece.length()), piece);
                default -> text.setLength(at);
            }
        }
        for (int i = any(0, 4) == 0 ? any(1, 3) : 0; i > 0; i--) {
            text.append(PIECES[any(0, PIECES.length - 1)]).append(any(0, 1) == 0 ? " " : "");
        }
        if (text.length() > 800) {
            text.setLength(800);
        }
        int[] want = fault(text.toString());
        CrossDawn x = new CrossDawn();
        due("acts of <" + text + ">", read(x, text.toString()), want[0] == 0 ? want[2] : -1);
        due("fault of <" + text + ">", x.fault(0), want[0]);
        due("place in <" + text + ">", x.fault(1), want[1]);
    }

    private static String act(boolean brief) {
        String gap = any(0, 5) == 0 ? "\n " : " ";
        StringBuilder act = new StringBuilder();
        if (any(0, 1) == 0) {
            act.append(any(0, 1) == 0 ? "may" : "not").append(gap).append(KINDS[any(0, 4)]);
        } else {
            act.append("limit").append(any(0, 1) == 0 ? gap : "").append(any(0, 9) == 0 ? any(0, 25) : any(1, 20));
            act.append(any(0, 1) == 0 ? "" : gap + KINDS[any(0, 4)]);
        }
        if (!brief && any(0, 1) == 0) {
            act.append(gap).append("on").append(gap).append("s").append(any(0, 15));
        }
        if (!brief && any(0, 1) == 0) {
            int from = any(0, 1450);
            act.append(gap).append("from").append(gap).append(from).append(gap).append("to").append(gap);
            act.append(from + any(-1, 20));
        }
        return act.append(any(0, 2) == 0 ? gap : "").append(";").toString();
    }

    /**
     * The fault, its place and the number of acts, by the tokens that may come next: m the act's
     * first word, k a kind, n a speed, o on, s a street, f from, a and b minutes, t to, ; its end.
     */
    private static int[] fault(String text) {
        Matcher token = TOKEN.matcher(text);
        String next = "m";
        int acts = 0;
        int first = 0;
        int place = 0;
        while (true) {
            while (place < text.length() && (text.charAt(place) == ' ' || text.charAt(place) == '\n')) {
                place++;
            }
            if (place == text.length()) {
                return next.equals("m") ? new int[] {0, -1, acts} : new int[] {2, place, 0};
            }
            if (!token.find(place) || token.start() != place) {
                return new int[] {1, place, 0};
            }
            char c = letter(token, next);
            if (next.indexOf(c) < 0 || c == 'm' && acts == 20) {
                return new int[] {2, place, 0};
            }
            int number = token.group(2) == null ? 0 : Integer.parseInt(token.group());
            if (c == 'n' && (number < 1 || number > 20) || "ab".indexOf(c) >= 0 && number > 1440
                || c == 'b' && number <= first) {
                return new int[] {3, place, 0};
            }
            first = c == 'a' ? number : first;
            acts += c == ';' ? 1 : 0;
            next = switch (c) {
                case 'm' -> token.group().equals("limit") ? "n" : "k";
                case 'n' -> "kof;";
                case 'k' -> "of;";
                case 'o' -> "s";
                case 's' -> "f;";
                case 'f' -> "a";
                case 'a' -> "t";
                case 't' -> "b";
                case 'b' -> ";";
                default -> "m";
            };
            place = token.end();
        }
    }

    private static char letter(Matcher token, String next) {
        if (token.group(1) != null) {
            return 's';
        }
        if (token.group(2) != null) {
            return next.equals("n") || next.equals("a") || next.equals("b") ? next.charAt(0) : '0';
        }
        return switch (token.group()) {
            case "may", "not", "limit" -> 'm';
            case "car", "bus", "truck", "bike", "all" -> 'k';
            case "on" -> 'o';
            case "from" -> 'f';
            case "to" -> 't';
            case ";" -> ';';
            default -> '0';
        };
    }

    // Harms.

    private static void harms() {
        CrossDawn x = new CrossDawn();
        List<int[]> counts = new ArrayList<>();
        int day = 0;
        int weeks = any(1, 4);
        int most = any(0, 1) == 0 ? 12 : 1000;
        for (int i = 0; i < 150; i++) {
            switch (any(0, 4)) {
                case 0 -> {
                    int days = any(0, 2);
                    day += days;
                    due("later", x.later(days), day);
                }
                case 1, 2 -> {
                    int[] count = {any(0, 1), any(-weeks, weeks), any(0, most), day, Integer.MAX_VALUE};
                    due("tell", x.tell(count[0], count[1], count[2]), counts.size() < 60 ? counts.size() : -1);
                    if (counts.size() < 60) {
                        counts.add(count);
                    }
                }
                case 3 -> {
                    int c = any(0, 60);
                    boolean can = c < counts.size() && counts.get(c)[4] == Integer.MAX_VALUE && any(0, 2) == 0;
                    if (can || c >= counts.size() || counts.get(c)[4] != Integer.MAX_VALUE) {
                        due("untell", x.untell(c) ? 1 : 0, can ? 1 : 0);
                    }
                    if (can) {
                        counts.get(c)[4] = day;
                    }
                }
                default -> askHarms(x, counts, any(-1, day + 1), weeks);
            }
        }
    }

    private static void askHarms(CrossDawn x, List<int[]> counts, int k, int weeks) {
        int kind = any(0, 1);
        int from = any(-weeks - 1, weeks);
        int to = any(from, weeks + 1);
        int[] last = new int[101];
        Arrays.fill(last, -1);
        for (int[] c : counts) {
            if (c[0] == kind && c[3] <= k && c[4] > k) {
                last[c[1] + 50] = c[2];
            }
        }
        int sum = 0;
        for (int w = from; w <= to; w++) {
            sum += last[w + 50] < 0 ? 0 : last[w + 50];
        }
        due("harms", x.harms(kind, from, to, k), sum);
        int n = any(1, weeks);
        long before = 0;
        long after = 0;
        boolean all = true;
        for (int w = 0; w < n; w++) {
            all &= last[50 + w] >= 0 && last[49 - w] >= 0;
            after += last[50 + w];
            before += last[49 - w];
        }
        boolean differs = (after - before) * (after - before) > 4 * (after + before);
        due("differ", x.differ(kind, n, k), !all ? 0 : differs ? 1 : 2);
    }
}
