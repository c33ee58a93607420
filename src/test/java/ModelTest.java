import java.util.ArrayList;
import java.util.Comparator;
import java.util.List;
import java.util.Random;
import java.util.regex.Matcher;
import java.util.regex.Pattern;

/** Long runs of calls, always the same ones, against a slow second telling of the document. */
public final class ModelTest {
    private static final int NONE = -1, UNKNOWN = -2, OUTSIDE = -3, NOT = -4, FULL = -5;
    private static final int RUNS = 1500, CALLS = 300;

    /** The document told a second time: lists, searches through all there is, no care for speed. */
    private static final class Model {
        String text = "";
        int houses = 4;
        List<Integer> behind = ones(10);
        List<Integer> way = ones(10);
        List<int[]> walls = new ArrayList<>(), deeds = new ArrayList<>(), shops = new ArrayList<>();
        List<int[]> bells = new ArrayList<>(), sights = new ArrayList<>();
        List<Integer> walk = new ArrayList<>();
        int at = 0, time = 0;
        int[][] kept = new int[2][];
        int[][] far;

        static List<Integer> ones(int n) {
            List<Integer> row = new ArrayList<>();
            for (int i = 0; i < n; i++) {
                row.add(1);
            }
            return row;
        }

        Model() {
            measure();
        }

        boolean house(int h) {
            return h >= 0 && h < houses;
        }

        boolean isDeed(int d) {
            return d >= 0 && d < deeds.size();
        }

        static boolean in(int v, int low, int high) {
            return v >= low && v <= high;
        }

        int off(int h) {
            int sum = 0;
            for (int i = 1; i <= h; i++) {
                sum += behind.get(i);
            }
            return sum;
        }

        void measure() {
            far = new int[houses][houses];
            for (int from = 0; from < houses; from++) {
                int[] best = far[from];
                java.util.Arrays.fill(best, 1 << 20);
                best[from] = 0;
                for (int times = 0; times < houses; times++) {
                    for (int h = 0; h + 1 < houses; h++) {
                        relax(best, h, h + 1, way.get(h));
                    }
                    for (int[] w : walls) {
                        relax(best, w[0], w[1], w[2]);
                    }
                }
            }
        }

        static void relax(int[] best, int a, int b, int m) {
            best[a] = Math.min(best[a], best[b] + m);
            best[b] = Math.min(best[b], best[a] + m);
        }

        int clock(int h, int t) {
            int c = t - off(h);
            while (c < 0) {
                c += 1440;
            }
            return c % 1440;
        }

        int date(int h, int t) {
            return (t - off(h) - clock(h, t)) / 1440;
        }

        /** Reads the text; does its lines if wished. Answers the fault, or NONE; lines done in lineCount. */
        int lineCount;

        int read(boolean doing) {
            Matcher m = Pattern.compile("[a-z]+|[0-9]+|[^ ]", Pattern.DOTALL).matcher(text);
            List<String> tokens = new ArrayList<>();
            List<Integer> places = new ArrayList<>();
            while (m.find()) {
                tokens.add(m.group());
                places.add(m.start());
            }
            tokens.add("");
            places.add(text.length());
            int n = houses, w = walls.size(), d = deeds.size(), s = shops.size(), i = 0;
            for (lineCount = 1; ; lineCount++) {
                String word = tokens.get(i);
                boolean stands = switch (word) {
                    case "street", "behind", "way", "tidy" -> true;
                    case "wall" -> w < 8;
                    case "deed" -> d < 10;
                    case "shop" -> s < 6;
                    default -> false;
                };
                if (!stands) {
                    return places.get(i);
                }
                i++;
                List<Integer> args = new ArrayList<>();
                int[][] bounds = bounds(word, n);
                for (int[] bound : bounds) {
                    String token = tokens.get(i);
                    if (!token.matches("[0-9]{1,4}")) {
                        return places.get(i);
                    }
                    int v = Integer.parseInt(token);
                    if (!in(v, bound[0], bound[1]) || word.equals("wall") && args.size() == 1 && args.get(0) == v
                        || word.equals("shop") && args.size() == 2 && args.get(1) >= v) {
                        return places.get(i);
                    }
                    args.add(v);
                    i++;
                }
                switch (word) {
                    case "street" -> { n = args.get(0); w = 0; d = 0; s = 0; }
                    case "wall" -> w++;
                    case "deed" -> d++;
                    case "shop" -> s++;
                    case "tidy" -> { d = 0; s = 0; }
                    default -> { }
                }
                if (doing) {
                    perform(word, args);
                }
                if (tokens.get(i).isEmpty()) {
                    return NONE;
                }
                if (!tokens.get(i).equals(";") || lineCount == 10) {
                    return places.get(i);
                }
                i++;
            }
        }

        static int[][] bounds(String word, int n) {
            return switch (word) {
                case "street" -> new int[][] {{2, 10}};
                case "behind" -> new int[][] {{1, n - 1}, {0, 999}};
                case "way" -> new int[][] {{0, n - 2}, {1, 99}};
                case "wall" -> new int[][] {{0, n - 1}, {0, n - 1}, {1, 99}};
                case "deed" -> new int[][] {{0, n - 1}, {0, 1439}, {0, 99}};
                case "shop" -> new int[][] {{0, n - 1}, {0, 1439}, {0, 1439}, {0, 99}, {0, 99}};
                default -> new int[0][];
            };
        }

        void perform(String word, List<Integer> args) {
            int[] row = args.stream().mapToInt(v -> v).toArray();
            switch (word) {
                case "street" -> {
                    houses = row[0];
                    behind = ones(10);
                    way = ones(10);
                    walls.clear();
                    deeds.clear();
                    shops.clear();
                }
                case "behind" -> behind.set(row[0], row[1]);
                case "way" -> way.set(row[0], row[1]);
                case "wall" -> walls.add(row);
                case "deed" -> deeds.add(row);
                case "shop" -> shops.add(row);
                default -> {
                    deeds.clear();
                    shops.clear();
                }
            }
        }

        int write(long bytes, int n) {
            if (!in(n, 1, 8)) {
                return OUTSIDE;
            }
            if (text.length() + n > 200) {
                return FULL;
            }
            for (int i = 0; i < n; i++) {
                text += (char) (bytes >> 8 * i & 255);
            }
            return text.length();
        }

        int erase() {
            int n = text.length();
            text = "";
            return n;
        }

        int street() {
            if (read(false) != NONE) {
                return NOT;
            }
            read(true);
            measure();
            text = "";
            at = 0;
            time = 0;
            kept = new int[2][];
            walk.clear();
            bells.clear();
            sights.clear();
            return lineCount;
        }

        int shows(int h, int t, int what) {
            return !house(h) ? UNKNOWN : !in(t, 0, 99999) || !in(what, 0, 1) ? OUTSIDE
                : what == 0 ? clock(h, t) : date(h, t) + 100;
        }

        int byClocks(int a, int b) {
            return !house(a) || !house(b) ? UNKNOWN : far[a][b] + off(a) - off(b) + 100000;
        }

        int gaining(int what) {
            if (!in(what, 0, 1)) {
                return OUTSIDE;
            }
            List<int[]> pairs = new ArrayList<>();
            for (int a = 0; a < houses; a++) {
                for (int b = 0; b < houses; b++) {
                    if (byClocks(a, b) < 100000) {
                        pairs.add(new int[] {byClocks(a, b), a * 20 + b});
                    }
                }
            }
            pairs.sort(Comparator.<int[]>comparingInt(p -> p[0]).thenComparingInt(p -> p[1]));
            return what == 0 ? pairs.size() : pairs.isEmpty() ? NONE : pairs.get(0)[1];
        }

        int begin(int d) {
            return deeds.get(d)[1] + off(deeds.get(d)[0]);
        }

        int deed(int d, int what) {
            return !isDeed(d) ? UNKNOWN : !in(what, 0, 3) ? OUTSIDE : what == 3 ? begin(d) : deeds.get(d)[what];
        }

        int go(int h) {
            if (!house(h)) {
                return UNKNOWN;
            }
            if (h == at) {
                return NOT;
            }
            if (time + far[at][h] > 99999) {
                return FULL;
            }
            time += far[at][h];
            at = h;
            return time;
        }

        int await(int n) {
            if (!in(n, 1, 9999)) {
                return OUTSIDE;
            }
            return time + n > 99999 ? FULL : (time += n);
        }

        int here(int what) {
            int[] all = {at, time, clock(at, time), date(at, time) + 100};
            return in(what, 0, 3) ? all[what] : OUTSIDE;
        }

        int keep(int k) {
            if (!in(k, 0, 1)) {
                return UNKNOWN;
            }
            kept[k] = new int[] {at, time};
            return time;
        }

        int back(int k) {
            if (!in(k, 0, 1)) {
                return UNKNOWN;
            }
            if (kept[k] == null) {
                return NOT;
            }
            at = kept[k][0];
            time = kept[k][1];
            return time;
        }

        List<Integer> ordered() {
            List<Integer> all = new ArrayList<>();
            for (int d = 0; d < deeds.size(); d++) {
                all.add(d);
            }
            all.sort(Comparator.<Integer>comparingInt(this::begin).thenComparingInt(d -> d));
            return all;
        }

        int order(int i) {
            return i < 0 ? OUTSIDE : i < deeds.size() ? ordered().get(i) : NONE;
        }

        int behind(int i, int j) {
            if (!isDeed(i) || !isDeed(j)) {
                return UNKNOWN;
            }
            List<Integer> all = ordered();
            int left = begin(j) - begin(i) - deeds.get(i)[2] - far[deeds.get(i)[0]][deeds.get(j)[0]];
            return all.indexOf(i) < all.indexOf(j) && left >= 0 ? left + 100000 : NONE;
        }

        int most(int last, int i) {
            if (last != NONE && !isDeed(last)) {
                return UNKNOWN;
            }
            if (i < NONE) {
                return OUTSIDE;
            }
            List<Integer> all = ordered(), best = new ArrayList<>();
            for (int set = 1; set < 1 << all.size(); set++) {
                List<Integer> row = new ArrayList<>();
                boolean can = true;
                for (int p = 0; p < all.size() && can; p++) {
                    if ((set >> p & 1) == 1) {
                        can = row.isEmpty() || behind(row.get(row.size() - 1), all.get(p)) != NONE;
                        row.add(all.get(p));
                    }
                }
                if (can && (last == NONE || row.get(row.size() - 1) == last) && isBetter(row, best)) {
                    best = row;
                }
            }
            return i == NONE ? best.size() : i < best.size() ? best.get(i) : NONE;
        }

        static boolean isBetter(List<Integer> row, List<Integer> best) {
            if (row.size() != best.size()) {
                return row.size() > best.size();
            }
            for (int i = 0; i < row.size(); i++) {
                if (!row.get(i).equals(best.get(i))) {
                    return row.get(i) < best.get(i);
                }
            }
            return false;
        }

        int walk(int h) {
            if (!house(h)) {
                return UNKNOWN;
            }
            if (walk.size() == 12) {
                return FULL;
            }
            walk.add(h);
            return walk.size();
        }

        int rest() {
            int n = walk.size();
            walk.clear();
            return n;
        }

        int walked(int t, int what) {
            if (!in(t, 0, 9999) || !in(what, 0, 2)) {
                return OUTSIDE;
            }
            if (walk.isEmpty()) {
                return NOT;
            }
            List<Integer> dates = new ArrayList<>();
            int place = walk.get(0);
            for (int h : walk) {
                t += dates.isEmpty() ? 0 : h == place ? 1 : far[place][h];
                place = h;
                dates.add(date(h, t));
            }
            int taxes = 0, younger = 0;
            for (int i = 1; i < dates.size(); i++) {
                taxes += dates.get(i) > dates.get(i - 1) ? 1 : 0;
                younger += dates.get(i) < dates.get(i - 1) ? 1 : 0;
            }
            return what == 0 ? t : what == 1 ? taxes : younger;
        }

        int untilOpen(int s, int t) {
            int[] shop = shops.get(s);
            while (!in(clock(shop[0], t), shop[1], shop[2] - 1)) {
                t++;
            }
            return t;
        }

        int trade(int h, int t, int what) {
            if (!house(h)) {
                return UNKNOWN;
            }
            if (!in(t, 0, 9999) || !in(what, 0, 3)) {
                return OUTSIDE;
            }
            int[] best = null;
            for (int s = shops.size() - 1; s >= 0; s--) {
                for (int b = shops.size() - 1; b >= 0; b--) {
                    int bought = untilOpen(s, t + far[h][shops.get(s)[0]]);
                    int sold = untilOpen(b, bought + far[shops.get(s)[0]][shops.get(b)[0]]);
                    int gain = shops.get(b)[4] - shops.get(s)[3];
                    if (sold - t <= 2880 && gain > 0 && (best == null || gain >= best[0])) {
                        best = new int[] {gain, s, b, sold};
                    }
                }
            }
            return best == null ? NONE : best[what];
        }

        int bell(int a, int x, int b, int y) {
            if (!house(a) || !house(b)) {
                return UNKNOWN;
            }
            if (!in(x, 0, 1439) || !in(y, 0, 1439) || a == b) {
                return OUTSIDE;
            }
            if (bells.size() == 10) {
                return FULL;
            }
            bells.add(new int[] {a, x, b, y});
            return bells.size();
        }

        int hush() {
            int n = bells.size();
            bells.clear();
            return n;
        }

        /** Whether the bells are explained with the clocks of the set put anyhow, the others right. */
        boolean explained(int set) {
            Integer[] shift = new Integer[houses];
            for (int h = 0; h < houses; h++) {
                shift[h] = (set >> h & 1) == 1 ? null : 0;
            }
            for (int free = -1; free < houses; free++) {
                if (free >= 0 && shift[free] == null) {
                    shift[free] = 0;
                }
                for (int times = 0; times < houses; times++) {
                    for (int[] bell : bells) {
                        int a = bell[0], b = bell[2];
                        if (shift[a] != null && shift[b] == null) {
                            shift[b] = bell[3] - clock(b, stroke(a, bell[1], shift[a]));
                        } else if (shift[b] != null && shift[a] == null) {
                            shift[a] = bell[1] - clock(a, stroke(b, bell[3], shift[b]));
                        }
                    }
                }
            }
            for (int[] bell : bells) {
                int t = stroke(bell[0], bell[1], shift[bell[0]]);
                if ((clock(bell[2], t) + shift[bell[2]] - bell[3]) % 1440 != 0) {
                    return false;
                }
            }
            return true;
        }

        int stroke(int h, int shown, int shift) {
            return shown - shift + off(h) + 1440 * 100;
        }

        int wrong(int what) {
            if (!in(what, 0, 1)) {
                return OUTSIDE;
            }
            int best = NONE;
            for (int set = 0; set < 1 << houses; set++) {
                if ((best == NONE || Integer.bitCount(set) < Integer.bitCount(best)) && explained(set)) {
                    best = set;
                }
            }
            return best == NONE || what == 1 ? best : Integer.bitCount(best);
        }

        int seen(int p, int h, int c) {
            if (!in(p, 0, 5) || !house(h)) {
                return UNKNOWN;
            }
            if (!in(c, 0, 1439)) {
                return OUTSIDE;
            }
            if (sights.size() == 12) {
                return FULL;
            }
            sights.add(new int[] {p, h, c});
            return sights.size();
        }

        int forget() {
            int n = sights.size();
            sights.clear();
            return n;
        }

        int liars() {
            int set = 0;
            for (int[] s : sights) {
                for (int[] t : sights) {
                    if (s[0] == t[0] && far[s[1]][t[1]] > Math.abs(s[2] + off(s[1]) - t[2] - off(t[1]))) {
                        set |= 1 << s[0];
                    }
                }
            }
            return set;
        }

        int canBe(int h, int c) {
            if (!house(h)) {
                return UNKNOWN;
            }
            if (!in(c, 0, 1439)) {
                return OUTSIDE;
            }
            int set = 0;
            for (int p = 0; p < 6; p++) {
                sights.add(new int[] {p, h, c});
                set |= ~liars() & 1 << p;
                sights.remove(sights.size() - 1);
            }
            return set;
        }

        int hang(int what) {
            if (!in(what, 0, 1)) {
                return OUTSIDE;
            }
            if (deeds.isEmpty()) {
                return NOT;
            }
            int best = 0, least = Integer.MAX_VALUE;
            for (int h = houses - 1; h >= 0; h--) {
                int house = h;
                int sum = deeds.stream().mapToInt(d -> Math.abs(off(d[0]) - off(house))).sum();
                if (sum <= least) {
                    least = sum;
                    best = h;
                }
            }
            return what == 0 ? best : least;
        }

        int ring(int k) {
            if (!in(k, 1, 9999)) {
                return OUTSIDE;
            }
            int m = 1;
            while (k * m % 1440 != 0) {
                m++;
            }
            return m;
        }

        int count(int what) {
            int[] all = {houses, walls.size(), deeds.size(), shops.size(), walk.size(), bells.size(),
                sights.size(), text.length()};
            return in(what, 0, 7) ? all[what] : OUTSIDE;
        }
    }

    private final Random random;
    private final MinuteBehind x = new MinuteBehind();
    private final Model m = new Model();
    private final List<String> calls = new ArrayList<>();
    private int wrong = 0;

    private ModelTest(long seed) {
        random = new Random(seed);
    }

    private void due(String call, int got, int want) {
        calls.add(call + " " + got);
        if (got != want && wrong == 0) {
            wrong++;
            System.out.println(String.join("\n", calls));
            System.out.println(call + " answered " + got + ", due is " + want);
        }
    }

    private int pick(int low, int high) {
        return low + random.nextInt(high - low + 1);
    }

    /** Mostly within the bounds, at times just outside, seldom far off. */
    private int about(int low, int high) {
        int way = random.nextInt(40);
        if (way == 0) {
            return low - 1;
        }
        if (way == 1) {
            return high + 1;
        }
        if (way == 2) {
            return random.nextInt();
        }
        return way < 6 ? low : way < 9 ? high : pick(low, Math.max(low, high));
    }

    private int house() {
        return about(0, m.houses - 1);
    }

    private int clock() {
        return random.nextInt(3) == 0 ? about(0, 1439) : pick(0, 40);
    }

    private int time(int most) {
        return random.nextInt(3) == 0 ? about(0, most) : pick(0, Math.min(most, 4000));
    }

    private int pickInText(int low, int high) {
        return random.nextInt(60) == 0 ? about(low, high) : pick(low, Math.max(low, high));
    }

    private int smallOrAny(int small, int high) {
        return random.nextInt(3) > 0 ? pickInText(0, small) : pickInText(0, high);
    }

    private String line(int n) {
        int h = Math.max(1, n) - 1;
        switch (random.nextInt(12)) {
            case 0: return "behind " + pickInText(1, h) + " " + smallOrAny(20, 999);
            case 1: return "behind " + pickInText(1, h) + " " + pickInText(0, 999);
            case 2: return "way " + pickInText(0, h - 1) + " " + pickInText(1, 99);
            case 3: return "way " + pickInText(0, h - 1) + " " + pickInText(1, 9);
            case 4: return "wall " + pickInText(0, h) + " " + pickInText(0, h) + " " + pickInText(1, 99);
            case 5: case 6: case 7:
                return "deed " + pickInText(0, h) + " " + smallOrAny(30, 1439) + " " + smallOrAny(8, 99);
            case 8: case 9: {
                int a = pickInText(0, 1438);
                return "shop " + pickInText(0, h) + " " + a + " " + pickInText(a + 1, Math.min(1439, a + 300)) + " "
                    + pickInText(0, 99) + " " + pickInText(0, 99);
            }
            case 10: return random.nextInt(3) == 0 ? "tidy" : "deed 0 " + smallOrAny(9, 1439) + " 0";
            default: return "wall 0 " + pickInText(1, h) + " " + pickInText(1, 20);
        }
    }

    private String someText() {
        StringBuilder text = new StringBuilder();
        int n = m.houses;
        int lines = pick(1, 10);
        for (int i = 0; i < lines; i++) {
            if (i > 0) {
                text.append(random.nextInt(9) == 0 ? " ; " : ";");
            }
            if (i == 0 && random.nextInt(3) == 0) {
                n = pickInText(2, 10);
                text.append("street ").append(n);
            } else {
                text.append(line(n));
            }
        }
        if (random.nextInt(5) == 0) {
            String odd = " ;az09/:`{A\t\u00e4\u00ff\u0000";
            int place = random.nextInt(text.length());
            text.setCharAt(place, odd.charAt(random.nextInt(odd.length())));
        }
        return text.toString();
    }

    private void tellText() {
        String text = someText();
        int at = 0;
        while (at < text.length()) {
            int n = Math.min(pick(1, 8), text.length() - at);
            long bytes = random.nextLong();
            for (int i = 0; i < n; i++) {
                bytes = bytes & ~(255L << 8 * i) | (long) text.charAt(at + i) << 8 * i;
            }
            due("write(" + bytes + "L, " + n + ")", x.write(bytes, n), m.write(bytes, n));
            at += n;
        }
        due("fault() of " + text, x.fault(), m.read(false));
        due("street()", x.street(), m.street());
        if (random.nextInt(3) > 0) {
            due("erase()", x.erase(), m.erase());
        }
    }

    private void oddCall() {
        int n = about(1, 8);
        switch (random.nextInt(5)) {
            case 0: due("write(7, " + n + ")", x.write(7, n), m.write(7, n)); break;
            case 1: due("erase()", x.erase(), m.erase()); break;
            case 2: due("fault()", x.fault(), m.read(false)); break;
            case 3: due("street()", x.street(), m.street()); break;
            default: break;
        }
    }

    private void clockCall() {
        int a = house(), b = house(), t = time(99999), what = about(0, 1), d = about(0, m.deeds.size() - 1);
        int part = about(0, 3);
        due("off(" + a + ")", x.off(a), m.house(a) ? m.off(a) : UNKNOWN);
        due("far(" + a + ", " + b + ")", x.far(a, b), m.house(a) && m.house(b) ? m.far[a][b] : UNKNOWN);
        due("shows(" + a + ", " + t + ", " + what + ")", x.shows(a, t, what), m.shows(a, t, what));
        due("byClocks(" + a + ", " + b + ")", x.byClocks(a, b), m.byClocks(a, b));
        due("gaining(" + what + ")", x.gaining(what), m.gaining(what));
        due("deed(" + d + ", " + part + ")", x.deed(d, part), m.deed(d, part));
    }

    private void walkerCall() {
        int h = house(), n = random.nextInt(4) == 0 ? about(1, 9999) : pick(1, 300), k = about(0, 1), what = about(0, 3);
        switch (random.nextInt(6)) {
            case 0: case 1: due("go(" + h + ")", x.go(h), m.go(h)); break;
            case 2: due("await(" + n + ")", x.await(n), m.await(n)); break;
            case 3: due("keep(" + k + ")", x.keep(k), m.keep(k)); break;
            case 4: due("back(" + k + ")", x.back(k), m.back(k)); break;
            default: due("here(" + what + ")", x.here(what), m.here(what)); break;
        }
    }

    private void longWait() {
        for (int i = 0; i < 11; i++) {
            due("await(9990)", x.await(9990), m.await(9990));
        }
        for (int i = 0; i < 8; i++) {
            walkerCall();
        }
    }

    private void deedCall() {
        int i = about(0, m.deeds.size()), j = about(0, m.deeds.size() - 1), last = about(NONE, m.deeds.size() - 1);
        int place = about(NONE, m.deeds.size()), what = about(0, 1);
        due("order(" + i + ")", x.order(i), m.order(i));
        due("behind(" + i + ", " + j + ")", x.behind(i, j), m.behind(i, j));
        due("most(" + last + ", " + place + ")", x.most(last, place), m.most(last, place));
        due("hang(" + what + ")", x.hang(what), m.hang(what));
    }

    private void walkCall() {
        int h = house(), t = time(9999), what = about(0, 2);
        if (random.nextInt(30) == 0) {
            due("rest()", x.rest(), m.rest());
        }
        due("walk(" + h + ")", x.walk(h), m.walk(h));
        due("walked(" + t + ", " + what + ")", x.walked(t, what), m.walked(t, what));
    }

    private void shopCall() {
        int h = house(), t = time(9999), what = about(0, 3);
        due("trade(" + h + ", " + t + ", " + what + ")", x.trade(h, t, what), m.trade(h, t, what));
    }

    private void bellCall() {
        int a = house(), b = house(), x1 = clock(), y1 = clock(), what = about(0, 1);
        boolean isFit = m.house(a) && m.house(b) && random.nextInt(3) > 0;
        if (isFit) {
            int stroke = pick(0, 20000);
            int lie = random.nextInt(4) == 0 ? pick(0, 3) : (a % 3 == 1 ? 5 : 0) - (b % 3 == 1 ? 5 : 0);
            x1 = m.clock(a, stroke);
            y1 = m.clock(b, stroke + 1440 - lie);
        }
        if (random.nextInt(12) == 0) {
            due("hush()", x.hush(), m.hush());
        }
        due("bell(" + a + ", " + x1 + ", " + b + ", " + y1 + ")", x.bell(a, x1, b, y1), m.bell(a, x1, b, y1));
        due("wrong(" + what + ")", x.wrong(what), m.wrong(what));
    }

    private void sightCall() {
        int p = about(0, 5), h = house(), c = clock(), g = house(), e = clock();
        if (random.nextInt(20) == 0) {
            due("forget()", x.forget(), m.forget());
        }
        due("seen(" + p + ", " + h + ", " + c + ")", x.seen(p, h, c), m.seen(p, h, c));
        due("liars()", x.liars(), m.liars());
        due("canBe(" + g + ", " + e + ")", x.canBe(g, e), m.canBe(g, e));
    }

    private void lawCall() {
        int k = about(1, 9999), what = about(0, 7);
        due("ring(" + k + ")", x.ring(k), m.ring(k));
        due("count(" + what + ")", x.count(what), m.count(what));
    }

    private boolean run() {
        for (int i = 0; i < 3; i++) {
            tellText();
        }
        while (calls.size() < CALLS) {
            switch (random.nextInt(30)) {
                case 0: tellText(); break;
                case 1: oddCall(); break;
                case 2: if (random.nextInt(10) == 0) { longWait(); } break;
                case 3: case 4: lawCall(); break;
                case 5: case 6: case 7: clockCall(); break;
                case 8: case 9: case 10: case 11: case 12: case 13: walkerCall(); break;
                case 14: case 15: case 16: deedCall(); break;
                case 17: case 18: case 19: walkCall(); break;
                case 20: case 21: case 22: shopCall(); break;
                case 23: case 24: case 25: bellCall(); break;
                default: sightCall(); break;
            }
        }
        return wrong == 0;
    }

    public static void main(String[] args) {
        int failed = 0;
        for (int seed = 0; seed < RUNS && failed < 3; seed++) {
            if (!new ModelTest(seed).run()) {
                System.out.println("run " + seed + " is not as due");
                failed++;
            }
        }
        System.out.println(failed == 0 ? RUNS + " runs are as the model's" : "runs are not as the model's");
        if (failed != 0) {
            System.exit(1);
        }
    }
}
