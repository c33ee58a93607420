/**
 * A street in which each house keeps its clock behind that of the one ahead.
 *
 * <p>Every row is made once, with the object: no call makes another object.
 */
public final class MinuteBehind {
    public static final int NONE = -1, UNKNOWN = -2, OUTSIDE = -3, NOT = -4, FULL = -5;

    private static final int DAY = 1440;
    private static final int HOUSES_AT_FIRST = 4;
    private static final int HOUSES_AT_MOST = 10;
    private static final int SHORTCUTS_AT_MOST = 8;
    private static final int DEEDS_AT_MOST = 10;
    private static final int SHOPS_AT_MOST = 6;
    private static final int WALK_AT_MOST = 12;
    private static final int BELLS_AT_MOST = 10;
    private static final int SIGHTS_AT_MOST = 12;
    private static final int PEOPLE = 6;
    private static final int KEEPS = 2;
    private static final int BYTES_AT_MOST = 200;
    private static final int LINES_AT_MOST = 10;
    private static final int NUMBERS_AT_MOST = 5;
    private static final int DIGITS_AT_MOST = 4;
    private static final int BEHIND_AT_MOST = 999;
    private static final int SMALL_AT_MOST = 99;
    private static final int TIME_AT_MOST = 99999;
    private static final int START_AT_MOST = 9999;
    private static final int WAIT_AT_MOST = 9999;
    private static final int RING_AT_MOST = 9999;
    private static final int TRADE_AT_MOST = 2880;

    /** Added to answers that may be below 0, so that none looks like a refusal. */
    private static final int DATE_SHIFT = 100, MINUTES_SHIFT = 100000;
    private static final int PAIR_STEP = 20;

    /** Above every distance, and small enough that two of them together still are an int. */
    private static final int FAR_AWAY = 1000000;

    /** The kinds of a line. */
    private static final int NO_LINE = 0, STREET = 1, BEHIND = 2, WAY = 3, WALL = 4, DEED = 5, SHOP = 6, TIDY = 7;

    /** The kinds of a token; the end of the text is one too. */
    private static final int END = 0, WORD = 1, NUMBER = 2, BETWEEN = 3, OTHER = 4;

    private final Houses houses = new Houses();
    private final Deeds deeds = new Deeds(houses);
    private final Shops shops = new Shops(houses);
    private final Text text = new Text();
    private final Reader reader = new Reader(text);
    private final Walker walker = new Walker();
    private final Walk walk = new Walk(houses);
    private final Bells bells = new Bells(houses);
    private final Sights sights = new Sights(houses);

    public MinuteBehind() {
    }

    // ---- what is told

    public int write(long bytes, int n) {
        if (n < 1 || n > 8) {
            return OUTSIDE;
        }
        return text.append(bytes, n);
    }

    public int erase() {
        return text.clear();
    }

    public int fault() {
        return reader.readAll(houses.number, houses.shortcuts, deeds.number, shops.number);
    }

    public int street() {
        if (reader.readAll(houses.number, houses.shortcuts, deeds.number, shops.number) != NONE) {
            return NOT;
        }
        for (int line = 0; line < reader.lines; line++) {
            carryOut(line);
        }
        houses.settle();
        deeds.settle();
        text.clear();
        walker.restart();
        walk.clear();
        bells.clear();
        sights.clear();
        return reader.lines;
    }

    public int off(int house) {
        return houses.has(house) ? houses.offs[house] : UNKNOWN;
    }

    public int far(int a, int b) {
        return houses.has(a) && houses.has(b) ? houses.distance(a, b) : UNKNOWN;
    }

    public int shows(int house, int time, int what) {
        if (!houses.has(house)) {
            return UNKNOWN;
        }
        if (time < 0 || time > TIME_AT_MOST || what < 0 || what > 1) {
            return OUTSIDE;
        }
        return what == 0 ? houses.clockAt(house, time) : houses.dateAt(house, time) + DATE_SHIFT;
    }

    public int byClocks(int a, int b) {
        return houses.has(a) && houses.has(b) ? houses.spanByClocks(a, b) + MINUTES_SHIFT : UNKNOWN;
    }

    public int gaining(int what) {
        if (what < 0 || what > 1) {
            return OUTSIDE;
        }
        return what == 0 ? houses.gainingPairs() : houses.mostGainingPair();
    }

    public int deed(int deed, int what) {
        if (!deeds.has(deed)) {
            return UNKNOWN;
        }
        switch (what) {
            case 0: return deeds.house[deed];
            case 1: return deeds.clock[deed];
            case 2: return deeds.minutes[deed];
            case 3: return deeds.begin(deed);
            default: return OUTSIDE;
        }
    }

    // ---- one who walks

    public int go(int house) {
        if (!houses.has(house)) {
            return UNKNOWN;
        }
        if (house == walker.house) {
            return NOT;
        }
        return walker.spend(houses.distance(walker.house, house), house);
    }

    public int await(int n) {
        if (n < 1 || n > WAIT_AT_MOST) {
            return OUTSIDE;
        }
        return walker.spend(n, walker.house);
    }

    public int here(int what) {
        switch (what) {
            case 0: return walker.house;
            case 1: return walker.time;
            case 2: return houses.clockAt(walker.house, walker.time);
            case 3: return houses.dateAt(walker.house, walker.time) + DATE_SHIFT;
            default: return OUTSIDE;
        }
    }

    public int keep(int k) {
        return k >= 0 && k < KEEPS ? walker.store(k) : UNKNOWN;
    }

    public int back(int k) {
        return k >= 0 && k < KEEPS ? walker.restore(k) : UNKNOWN;
    }

    // ---- deeds, walks, shops

    public int order(int i) {
        if (i < 0) {
            return OUTSIDE;
        }
        return i < deeds.number ? deeds.byTime[i] : NONE;
    }

    public int behind(int i, int j) {
        if (!deeds.has(i) || !deeds.has(j)) {
            return UNKNOWN;
        }
        return deeds.canFollow(i, j) ? deeds.minutesLeft(i, j) + MINUTES_SHIFT : NONE;
    }

    public int most(int last, int i) {
        if (last != NONE && !deeds.has(last)) {
            return UNKNOWN;
        }
        if (i < NONE) {
            return OUTSIDE;
        }
        deeds.measureRows(last);
        return i == NONE ? deeds.longestRow() : deeds.inLongestRow(i);
    }

    public int walk(int house) {
        return houses.has(house) ? walk.add(house) : UNKNOWN;
    }

    public int rest() {
        return walk.clear();
    }

    public int walked(int time, int what) {
        if (time < 0 || time > START_AT_MOST || what < 0 || what > 2) {
            return OUTSIDE;
        }
        if (walk.number == 0) {
            return NOT;
        }
        walk.follow(time);
        switch (what) {
            case 0: return walk.end;
            case 1: return walk.taxes;
            default: return walk.younger;
        }
    }

    public int trade(int house, int time, int what) {
        if (!houses.has(house)) {
            return UNKNOWN;
        }
        if (time < 0 || time > START_AT_MOST || what < 0 || what > 3) {
            return OUTSIDE;
        }
        shops.seekTrade(house, time);
        if (shops.gain == 0) {
            return NONE;
        }
        switch (what) {
            case 0: return shops.gain;
            case 1: return shops.seller;
            case 2: return shops.buyer;
            default: return shops.end;
        }
    }

    // ---- bells, sights, laws

    public int bell(int a, int x, int b, int y) {
        if (!houses.has(a) || !houses.has(b)) {
            return UNKNOWN;
        }
        if (!isClock(x) || !isClock(y) || a == b) {
            return OUTSIDE;
        }
        return bells.add(a, x, b, y);
    }

    public int hush() {
        return bells.clear();
    }

    public int wrong(int what) {
        if (what < 0 || what > 1) {
            return OUTSIDE;
        }
        int set = bells.wrongClocks();
        return what == 0 && set != NONE ? Integer.bitCount(set) : set;
    }

    public int seen(int person, int house, int c) {
        if (person < 0 || person >= PEOPLE || !houses.has(house)) {
            return UNKNOWN;
        }
        return isClock(c) ? sights.add(person, house, c) : OUTSIDE;
    }

    public int forget() {
        return sights.clear();
    }

    public int liars() {
        return sights.lying();
    }

    public int canBe(int house, int c) {
        if (!houses.has(house)) {
            return UNKNOWN;
        }
        return isClock(c) ? sights.possibleAt(house, c) : OUTSIDE;
    }

    public int hang(int what) {
        if (what < 0 || what > 1) {
            return OUTSIDE;
        }
        if (deeds.number == 0) {
            return NOT;
        }
        int house = deeds.houseOfLeastChange();
        return what == 0 ? house : deeds.changeBy(house);
    }

    public int ring(int k) {
        return k >= 1 && k <= RING_AT_MOST ? leastClosing(k) : OUTSIDE;
    }

    public int count(int what) {
        switch (what) {
            case 0: return houses.number;
            case 1: return houses.shortcuts;
            case 2: return deeds.number;
            case 3: return shops.number;
            case 4: return walk.number;
            case 5: return bells.number;
            case 6: return sights.number;
            case 7: return text.length;
            default: return OUTSIDE;
        }
    }

    /** Does a line that has been read without a fault. */
    private void carryOut(int line) {
        int first = reader.numberAt(line, 0);
        int second = reader.numberAt(line, 1);
        int third = reader.numberAt(line, 2);
        switch (reader.kindAt(line)) {
            case STREET:
                houses.restart(first);
                deeds.number = 0;
                shops.number = 0;
                break;
            case BEHIND:
                houses.setBehind(first, second);
                break;
            case WAY:
                houses.setWay(first, second);
                break;
            case WALL:
                houses.addShortcut(first, second, third);
                break;
            case DEED:
                deeds.add(first, second, third);
                break;
            case SHOP:
                shops.add(first, second, third, reader.numberAt(line, 3), reader.numberAt(line, 4));
                break;
            default:
                deeds.number = 0;
                shops.number = 0;
                break;
        }
    }

    private static boolean isClock(int c) {
        return c >= 0 && c < DAY;
    }

    /** A whole day always closes the ring, so nothing above it is tried. */
    private static int leastClosing(int k) {
        int m = 1;
        while (m < DAY && k * m % DAY != 0) {
            m++;
        }
        return m;
    }

    /** The houses, their clocks, and the roads between them. */
    private static final class Houses {
        final int[] offs = new int[HOUSES_AT_MOST];
        int number;
        int shortcuts;
        private final int[] behindAhead = new int[HOUSES_AT_MOST];
        private final int[] wayOn = new int[HOUSES_AT_MOST];
        private final int[] from = new int[SHORTCUTS_AT_MOST];
        private final int[] to = new int[SHORTCUTS_AT_MOST];
        private final int[] over = new int[SHORTCUTS_AT_MOST];
        private final int[][] distances = new int[HOUSES_AT_MOST][HOUSES_AT_MOST];

        Houses() {
            restart(HOUSES_AT_FIRST);
            settle();
        }

        void restart(int n) {
            number = n;
            shortcuts = 0;
            for (int h = 0; h < HOUSES_AT_MOST; h++) {
                behindAhead[h] = h == 0 ? 0 : 1;
                wayOn[h] = 1;
            }
        }

        void setBehind(int house, int by) {
            if (has(house)) {
                behindAhead[house] = by;
            }
        }

        void setWay(int house, int minutes) {
            if (has(house)) {
                wayOn[house] = minutes;
            }
        }

        void addShortcut(int a, int b, int minutes) {
            if (shortcuts < SHORTCUTS_AT_MOST) {
                from[shortcuts] = a;
                to[shortcuts] = b;
                over[shortcuts] = minutes;
                shortcuts++;
            }
        }

        /** Offs and distances are worked out once behind a text, as only a text changes them. */
        void settle() {
            int off = 0;
            for (int h = 0; h < number; h++) {
                off += behindAhead[h];
                offs[h] = off;
            }
            layRoads();
            joinRoads();
        }

        private void layRoads() {
            for (int a = 0; a < number; a++) {
                for (int b = 0; b < number; b++) {
                    distances[a][b] = a == b ? 0 : FAR_AWAY;
                }
            }
            for (int h = 0; h + 1 < number; h++) {
                layRoad(h, h + 1, wayOn[h]);
            }
            for (int s = 0; s < shortcuts; s++) {
                layRoad(from[s], to[s], over[s]);
            }
        }

        private void layRoad(int a, int b, int minutes) {
            if (has(a) && has(b) && minutes < distances[a][b]) {
                distances[a][b] = minutes;
                distances[b][a] = minutes;
            }
        }

        private void joinRoads() {
            for (int by = 0; by < number; by++) {
                for (int a = 0; a < number; a++) {
                    for (int b = 0; b < number; b++) {
                        distances[a][b] = Math.min(distances[a][b], distances[a][by] + distances[by][b]);
                    }
                }
            }
        }

        boolean has(int house) {
            return house >= 0 && house < number;
        }

        int distance(int a, int b) {
            return distances[a][b];
        }

        int clockAt(int house, int time) {
            return Math.floorMod(time - offs[house], DAY);
        }

        int dateAt(int house, int time) {
            return Math.floorDiv(time - offs[house], DAY);
        }

        /** The true time at which a clock shows c on date 0. */
        int trueTime(int house, int c) {
            return offs[house] + c;
        }

        int spanByClocks(int a, int b) {
            return distances[a][b] - (offs[b] - offs[a]);
        }

        int gainingPairs() {
            int pairs = 0;
            for (int a = 0; a < number; a++) {
                for (int b = 0; b < number; b++) {
                    if (spanByClocks(a, b) < 0) {
                        pairs++;
                    }
                }
            }
            return pairs;
        }

        int mostGainingPair() {
            int least = 0;
            int pair = NONE;
            for (int a = 0; a < number; a++) {
                for (int b = 0; b < number; b++) {
                    if (spanByClocks(a, b) < least) {
                        least = spanByClocks(a, b);
                        pair = PAIR_STEP * a + b;
                    }
                }
            }
            return pair;
        }
    }

    /** The deeds, and the rows in which one can do them. */
    private static final class Deeds {
        final int[] house = new int[DEEDS_AT_MOST];
        final int[] clock = new int[DEEDS_AT_MOST];
        final int[] minutes = new int[DEEDS_AT_MOST];
        final int[] byTime = new int[DEEDS_AT_MOST];
        int number;
        private final Houses houses;
        /** Of each deed: how many deeds the longest row has that begins with it; 0: none ends as it must. */
        private final int[] rowFrom = new int[DEEDS_AT_MOST];

        Deeds(Houses houses) {
            this.houses = houses;
        }

        void add(int at, int c, int length) {
            if (number < DEEDS_AT_MOST) {
                house[number] = at;
                clock[number] = c;
                minutes[number] = length;
                number++;
            }
        }

        boolean has(int deed) {
            return deed >= 0 && deed < number;
        }

        int begin(int deed) {
            return houses.trueTime(house[deed], clock[deed]);
        }

        /** Puts the deeds in order; a deed goes only ahead of later ones, so like ones stay by number. */
        void settle() {
            for (int deed = 0; deed < number; deed++) {
                int place = deed;
                while (place > 0 && begin(byTime[place - 1]) > begin(deed)) {
                    byTime[place] = byTime[place - 1];
                    place--;
                }
                byTime[place] = deed;
            }
        }

        private boolean isAhead(int i, int j) {
            return begin(i) < begin(j) || begin(i) == begin(j) && i < j;
        }

        int minutesLeft(int i, int j) {
            return begin(j) - (begin(i) + minutes[i] + houses.distance(house[i], house[j]));
        }

        boolean canFollow(int i, int j) {
            return isAhead(i, j) && minutesLeft(i, j) >= 0;
        }

        /** From the last deed in order to the first, so that what can follow is measured already. */
        void measureRows(int last) {
            for (int place = number - 1; place >= 0; place--) {
                int deed = byTime[place];
                int rest = 0;
                for (int next = place + 1; next < number; next++) {
                    if (canFollow(deed, byTime[next])) {
                        rest = Math.max(rest, rowFrom[byTime[next]]);
                    }
                }
                boolean mayEnd = last == NONE || last == deed;
                rowFrom[deed] = rest > 0 || mayEnd ? rest + 1 : 0;
            }
        }

        int longestRow() {
            int longest = 0;
            for (int deed = 0; deed < number; deed++) {
                longest = Math.max(longest, rowFrom[deed]);
            }
            return longest;
        }

        /** The least deed at each place from which the row can still become as long as it must. */
        int inLongestRow(int i) {
            int left = longestRow();
            if (i >= left) {
                return NONE;
            }
            int at = NONE;
            for (int place = 0; place <= i; place++) {
                at = leastFrom(at, left - place);
            }
            return at;
        }

        private int leastFrom(int ahead, int left) {
            for (int deed = 0; deed < number; deed++) {
                if (rowFrom[deed] == left && (!has(ahead) || canFollow(ahead, deed))) {
                    return deed;
                }
            }
            return NONE;
        }

        int changeBy(int clockHouse) {
            int change = 0;
            for (int deed = 0; deed < number; deed++) {
                change += Math.abs(houses.offs[clockHouse] - houses.offs[house[deed]]);
            }
            return change;
        }

        int houseOfLeastChange() {
            int best = 0;
            for (int h = 1; h < houses.number; h++) {
                if (changeBy(h) < changeBy(best)) {
                    best = h;
                }
            }
            return best;
        }
    }

    /** The shops, and the best trade found last. */
    private static final class Shops {
        int number;
        int gain;
        int seller;
        int buyer;
        int end;
        private final Houses houses;
        private final int[] house = new int[SHOPS_AT_MOST];
        private final int[] opens = new int[SHOPS_AT_MOST];
        private final int[] closes = new int[SHOPS_AT_MOST];
        private final int[] sellsFor = new int[SHOPS_AT_MOST];
        private final int[] buysFor = new int[SHOPS_AT_MOST];

        Shops(Houses houses) {
            this.houses = houses;
        }

        void add(int at, int open, int close, int sells, int buys) {
            if (number < SHOPS_AT_MOST) {
                house[number] = at;
                opens[number] = open;
                closes[number] = close;
                sellsFor[number] = sells;
                buysFor[number] = buys;
                number++;
            }
        }

        /** The true time at which one who leaves a house finds the shop open. */
        private int served(int shop, int leftHouse, int time) {
            int there = time + houses.distance(leftHouse, house[shop]);
            int clock = houses.clockAt(house[shop], there);
            if (clock >= opens[shop] && clock < closes[shop]) {
                return there;
            }
            return there + Math.floorMod(opens[shop] - clock, DAY);
        }

        /** The first of like gains stays, as the shops are tried in the order in which they are least. */
        void seekTrade(int from, int time) {
            gain = 0;
            for (int sells = 0; sells < number; sells++) {
                int bought = served(sells, from, time);
                for (int buys = 0; buys < number; buys++) {
                    int sold = served(buys, house[sells], bought);
                    int more = buysFor[buys] - sellsFor[sells];
                    if (more > gain && sold - time <= TRADE_AT_MOST) {
                        gain = more;
                        seller = sells;
                        buyer = buys;
                        end = sold;
                    }
                }
            }
        }
    }

    /** The text as it was written. */
    private static final class Text {
        final int[] bytes = new int[BYTES_AT_MOST];
        int length;

        int append(long more, int n) {
            if (length + n > BYTES_AT_MOST) {
                return FULL;
            }
            for (int i = 0; i < n; i++) {
                bytes[length] = (int) (more >> 8 * i & 255);
                length++;
            }
            return length;
        }

        int clear() {
            int had = length;
            length = 0;
            return had;
        }
    }

    /** Reads the text to its first fault; the lines ahead of it are held until they are done. */
    private static final class Reader {
        int lines;
        private final Text text;
        private final int[] kinds = new int[LINES_AT_MOST];
        private final int[] numbers = new int[LINES_AT_MOST * NUMBERS_AT_MOST];
        private int place;
        private int tokenKind;
        private int tokenStart;
        private int tokenValue;
        /** What there would be behind the lines read so far. */
        private int houses;
        private int shortcuts;
        private int deeds;
        private int shops;

        Reader(Text text) {
            this.text = text;
        }

        int kindAt(int line) {
            return line >= 0 && line < lines ? kinds[line] : NO_LINE;
        }

        int numberAt(int line, int i) {
            boolean isThere = line >= 0 && line < lines && i >= 0 && i < NUMBERS_AT_MOST;
            return isThere ? numbers[line * NUMBERS_AT_MOST + i] : 0;
        }

        /** The place of the fault, or NONE. */
        int readAll(int housesNow, int shortcutsNow, int deedsNow, int shopsNow) {
            houses = housesNow;
            shortcuts = shortcutsNow;
            deeds = deedsNow;
            shops = shopsNow;
            place = 0;
            lines = 0;
            while (lines < LINES_AT_MOST) {
                if (!readLine(lines * NUMBERS_AT_MOST)) {
                    return tokenStart;
                }
                lines++;
                readToken();
                if (tokenKind == END) {
                    return NONE;
                }
                if (tokenKind != BETWEEN) {
                    return tokenStart;
                }
            }
            return tokenStart;
        }

        /** Whether a whole line stands here; if not, the last token read is the fault. */
        private boolean readLine(int first) {
            readToken();
            int kind = kindOfWord();
            if (kind == NO_LINE || isFull(kind)) {
                return false;
            }
            for (int i = 0; i < numbersOf(kind); i++) {
                readToken();
                if (tokenKind != NUMBER || !canStand(kind, i, first)) {
                    return false;
                }
                numbers[first + i] = tokenValue;
            }
            kinds[lines] = kind;
            foresee(kind, numbers[first]);
            return true;
        }

        private boolean canStand(int kind, int i, int first) {
            if (kind == WALL && i == 1 && tokenValue == numbers[first]) {
                return false;
            }
            int least = kind == SHOP && i == 2 ? numbers[first + 1] + 1 : leastOf(kind, i);
            return tokenValue >= least && tokenValue <= greatestOf(kind, i);
        }

        private boolean isFull(int kind) {
            switch (kind) {
                case WALL: return shortcuts >= SHORTCUTS_AT_MOST;
                case DEED: return deeds >= DEEDS_AT_MOST;
                case SHOP: return shops >= SHOPS_AT_MOST;
                default: return false;
            }
        }

        private void foresee(int kind, int firstNumber) {
            switch (kind) {
                case STREET:
                    houses = firstNumber;
                    shortcuts = 0;
                    deeds = 0;
                    shops = 0;
                    break;
                case WALL:
                    shortcuts++;
                    break;
                case DEED:
                    deeds++;
                    break;
                case SHOP:
                    shops++;
                    break;
                case TIDY:
                    deeds = 0;
                    shops = 0;
                    break;
                default:
                    break;
            }
        }

        private static int numbersOf(int kind) {
            switch (kind) {
                case STREET: return 1;
                case BEHIND: return 2;
                case WAY: return 2;
                case WALL: return 3;
                case DEED: return 3;
                case SHOP: return 5;
                default: return 0;
            }
        }

        private static int leastOf(int kind, int i) {
            switch (kind) {
                case STREET: return 2;
                case BEHIND: return i == 0 ? 1 : 0;
                case WAY: return i == 0 ? 0 : 1;
                case WALL: return i == 2 ? 1 : 0;
                default: return 0;
            }
        }

        private int greatestOf(int kind, int i) {
            switch (kind) {
                case STREET: return HOUSES_AT_MOST;
                case BEHIND: return i == 0 ? houses - 1 : BEHIND_AT_MOST;
                case WAY: return i == 0 ? houses - 2 : SMALL_AT_MOST;
                case WALL: return i <= 1 ? houses - 1 : SMALL_AT_MOST;
                case DEED: return i == 0 ? houses - 1 : i == 1 ? DAY - 1 : SMALL_AT_MOST;
                case SHOP: return i == 0 ? houses - 1 : i <= 2 ? DAY - 1 : SMALL_AT_MOST;
                default: return NONE;
            }
        }

        /** Blanks only part tokens: they are no token, however many there are. */
        private void readToken() {
            while (place < text.length && text.bytes[place] == ' ') {
                place++;
            }
            tokenStart = place;
            if (place >= text.length) {
                tokenKind = END;
            } else if (isLetter(text.bytes[place])) {
                tokenKind = WORD;
                readLetters();
            } else if (isDigit(text.bytes[place])) {
                tokenKind = NUMBER;
                readDigits();
            } else {
                tokenKind = text.bytes[place] == ';' ? BETWEEN : OTHER;
                place++;
            }
        }

        private void readLetters() {
            while (place < text.length && isLetter(text.bytes[place])) {
                place++;
            }
        }

        /** A number of too many digits becomes one below all bounds. */
        private void readDigits() {
            tokenValue = 0;
            while (place < text.length && isDigit(text.bytes[place])) {
                boolean isShort = place - tokenStart < DIGITS_AT_MOST;
                tokenValue = isShort ? tokenValue * 10 + text.bytes[place] - '0' : NONE;
                place++;
            }
        }

        private static boolean isLetter(int b) {
            return b >= 'a' && b <= 'z';
        }

        private static boolean isDigit(int b) {
            return b >= '0' && b <= '9';
        }

        private int kindOfWord() {
            if (tokenKind != WORD) {
                return NO_LINE;
            }
            return isWord("street") ? STREET
                : isWord("behind") ? BEHIND
                : isWord("way") ? WAY
                : isWord("wall") ? WALL
                : isWord("deed") ? DEED
                : isWord("shop") ? SHOP
                : isWord("tidy") ? TIDY
                : NO_LINE;
        }

        private boolean isWord(String word) {
            if (place - tokenStart != word.length()) {
                return false;
            }
            for (int i = 0; i < word.length(); i++) {
                if (text.bytes[tokenStart + i] != word.charAt(i)) {
                    return false;
                }
            }
            return true;
        }
    }

    /** One who walks, and what was kept of where and when. */
    private static final class Walker {
        int house;
        int time;
        private final int[] keptHouse = new int[KEEPS];
        private final int[] keptTime = new int[KEEPS];

        Walker() {
            restart();
        }

        void restart() {
            house = 0;
            time = 0;
            for (int k = 0; k < KEEPS; k++) {
                keptHouse[k] = NONE;
            }
        }

        int spend(int minutes, int thenAt) {
            if (time + minutes > TIME_AT_MOST) {
                return FULL;
            }
            time += minutes;
            house = thenAt;
            return time;
        }

        int store(int k) {
            keptHouse[k] = house;
            keptTime[k] = time;
            return time;
        }

        int restore(int k) {
            if (keptHouse[k] == NONE) {
                return NOT;
            }
            house = keptHouse[k];
            time = keptTime[k];
            return time;
        }
    }

    /** The walk, and how it went when it was followed last. */
    private static final class Walk {
        int number;
        int end;
        int taxes;
        int younger;
        private final Houses houses;
        private final int[] row = new int[WALK_AT_MOST];

        Walk(Houses houses) {
            this.houses = houses;
        }

        int add(int house) {
            if (number >= WALK_AT_MOST) {
                return FULL;
            }
            row[number] = house;
            number++;
            return number;
        }

        int clear() {
            int had = number;
            number = 0;
            return had;
        }

        void follow(int start) {
            end = start;
            taxes = 0;
            younger = 0;
            for (int i = 1; i < number; i++) {
                int dateAhead = houses.dateAt(row[i - 1], end);
                end += row[i] == row[i - 1] ? 1 : houses.distance(row[i - 1], row[i]);
                int date = houses.dateAt(row[i], end);
                if (date > dateAhead) {
                    taxes++;
                } else if (date < dateAhead) {
                    younger++;
                }
            }
        }
    }

    /** Strokes heard at two doors, and which clocks must be wrong. */
    private static final class Bells {
        int number;
        private final Houses houses;
        private final int[] first = new int[BELLS_AT_MOST];
        private final int[] second = new int[BELLS_AT_MOST];
        /** By how much the first clock must be ahead of the second one beyond what their offs say. */
        private final int[] apart = new int[BELLS_AT_MOST];
        /** Of each house: the least house of those that bells tie to it. */
        private final int[] group = new int[HOUSES_AT_MOST];
        /** By how much its clock is ahead, beside what that of its group's least house is ahead. */
        private final int[] ahead = new int[HOUSES_AT_MOST];

        Bells(Houses houses) {
            this.houses = houses;
        }

        int add(int a, int x, int b, int y) {
            if (number >= BELLS_AT_MOST) {
                return FULL;
            }
            first[number] = a;
            second[number] = b;
            apart[number] = Math.floorMod(x + houses.offs[a] - y - houses.offs[b], DAY);
            number++;
            return number;
        }

        int clear() {
            int had = number;
            number = 0;
            return had;
        }

        /** The set of wrong clocks by bits, or NONE. */
        int wrongClocks() {
            tieGroups();
            for (int bell = 0; bell < number; bell++) {
                if (Math.floorMod(ahead[first[bell]] - ahead[second[bell]], DAY) != apart[bell]) {
                    return NONE;
                }
            }
            int set = 0;
            for (int h = 0; h < houses.number; h++) {
                if (group[h] == h) {
                    set |= wrongInGroup(h);
                }
            }
            return set;
        }

        private void tieGroups() {
            for (int h = 0; h < houses.number; h++) {
                group[h] = NONE;
            }
            for (int h = 0; h < houses.number; h++) {
                if (group[h] == NONE) {
                    group[h] = h;
                    ahead[h] = 0;
                    spread();
                }
            }
        }

        /** Once for each house is enough: each time a house more is tied, or there is none left. */
        private void spread() {
            for (int times = 0; times < houses.number; times++) {
                for (int bell = 0; bell < number; bell++) {
                    tie(first[bell], second[bell], -apart[bell]);
                    tie(second[bell], first[bell], apart[bell]);
                }
            }
        }

        private void tie(int known, int other, int more) {
            if (group[known] != NONE && group[other] == NONE) {
                group[other] = group[known];
                ahead[other] = Math.floorMod(ahead[known] + more, DAY);
            }
        }

        /** The most clocks that agree are right; of like many the greatest set, so that the wrong one is least. */
        private int wrongInGroup(int of) {
            int all = 0;
            int right = 0;
            for (int h = 0; h < houses.number; h++) {
                if (group[h] == of) {
                    all |= 1 << h;
                    int agreeing = agreeingWith(h);
                    int more = Integer.bitCount(agreeing) - Integer.bitCount(right);
                    if (more > 0 || more == 0 && agreeing > right) {
                        right = agreeing;
                    }
                }
            }
            return all & ~right;
        }

        private int agreeingWith(int house) {
            int set = 0;
            for (int h = 0; h < houses.number; h++) {
                if (group[h] == group[house] && ahead[h] == ahead[house]) {
                    set |= 1 << h;
                }
            }
            return set;
        }
    }

    /** Who was seen where, and who can have been. */
    private static final class Sights {
        int number;
        private final Houses houses;
        private final int[] person = new int[SIGHTS_AT_MOST];
        private final int[] house = new int[SIGHTS_AT_MOST];
        private final int[] time = new int[SIGHTS_AT_MOST];

        Sights(Houses houses) {
            this.houses = houses;
        }

        int add(int who, int at, int c) {
            if (number >= SIGHTS_AT_MOST) {
                return FULL;
            }
            person[number] = who;
            house[number] = at;
            time[number] = houses.trueTime(at, c);
            number++;
            return number;
        }

        int clear() {
            int had = number;
            number = 0;
            return had;
        }

        /** People of whom a sight can not be beside that one, by bits. */
        private int excludedAt(int at, int when) {
            int set = 0;
            for (int s = 0; s < number; s++) {
                if (houses.distance(at, house[s]) > Math.abs(when - time[s])) {
                    set |= 1 << person[s];
                }
            }
            return set;
        }

        int lying() {
            int set = 0;
            for (int s = 0; s < number; s++) {
                set |= excludedAt(house[s], time[s]) & 1 << person[s];
            }
            return set;
        }

        int possibleAt(int at, int c) {
            int everyone = (1 << PEOPLE) - 1;
            return everyone & ~lying() & ~excludedAt(at, houses.trueTime(at, c));
        }
    }
}
