import java.util.NoSuchElementException;

/** Bins of unlike grain: what lies in them, what it is worth, where more would lie best. */
public final class GrainBins {
    public static final int NONE = -1;

    private static final int GRADES = 6;
    private static final int BINS = 6;
    private static final int LAYERS = 6;
    private static final int MOST_WORTH = 999;
    private static final int MOST_KEEP = 99;
    private static final int MOST_LOSS = 99;
    private static final int MOST_CAP = 99;
    private static final int MOST_TONS = 99;
    private static final int MOST_DAY = 9999;
    private static final int MOST_GO_BY = 99;
    private static final int MOST_FUMES = 20;
    private static final int MOST_AHEAD = 999;
    private static final int MOST_DRAWN = 2000000000;

    private static final int NOTHING = -2;
    private static final int CLOSED = -2;
    private static final int TOO_LITTLE = -3;
    private static final int NO_ROOM = -4;
    private static final int APART = -5;
    private static final int TOO_MANY_LAYERS = -6;
    private static final int NO_WAY = -3;
    private static final int WOULD_NOT = -1000000;
    private static final int FAULT = -21;

    private final Text text = new Text();
    private final Rules rules = new Rules();
    private final Rules told = new Rules();
    private final Store now = new Store(rules);
    private final Store kept = new Store(rules);
    private boolean somethingKept;
    private final Past past = new Past(rules);
    private final Row numbers = new Row();
    private final Orders orders = new Orders();
    private final Laying laying = new Laying(rules, orders);
    private final Drawing drawing = new Drawing(now, orders);
    private final Script script = new Script();

    public GrainBins() {
    }

    // ---- grades, bins

    public int sign(int v) {
        return text.add(v) ? text.length : NONE;
    }

    public boolean end(int n) {
        return text.cut(n);
    }

    public int land() {
        text.start();
        int lines = told.read(text);
        text.clear();
        if (lines < 0) {
            return lines;
        }
        rules.copy(told);
        now.clear();
        past.clear();
        somethingKept = false;
        return lines;
    }

    public int grade(int grade, int what) {
        if (!isGrade(grade)) {
            return NONE;
        }
        switch (what) {
            case 0:
                return now.worth[grade];
            case 1:
                return rules.keep[grade];
            case 2:
                return now.tonsOf(grade);
            default:
                return NONE;
        }
    }

    public int pair(int grade, int other) {
        if (!isGrade(grade) || !isGrade(other)) {
            return NONE;
        }
        return rules.may(grade, other) ? rules.lossOf(grade, other) : NOTHING;
    }

    public int bin(int bin, int what) {
        if (!isBin(bin)) {
            return NONE;
        }
        switch (what) {
            case 0:
                return rules.cap[bin];
            case 1:
                return now.total[bin];
            case 2:
                return now.layers[bin];
            case 3:
                return Math.max(0, now.open[bin] - now.day);
            case 4:
                return now.gradesIn(bin);
            default:
                return NONE;
        }
    }

    public int layer(int bin, int i, int what) {
        if (!isBin(bin) || i < 0 || i >= now.layers[bin]) {
            return NONE;
        }
        int place = Store.place(bin, i);
        switch (what) {
            case 0:
                return now.grade[place];
            case 1:
                return now.tons[place];
            case 2:
                return now.since[place];
            case 3:
                return now.unit(place, now.day);
            default:
                return NONE;
        }
    }

    // ---- what happens

    public int load(int grade, int tons, int bin) {
        if (!isGrade(grade) || !isTons(tons) || !isBin(bin)) {
            return NONE;
        }
        int why = now.why(bin, grade, tons, now.day);
        if (why < 0) {
            return why;
        }
        past.add(now);
        now.lay(bin, grade, tons, now.day);
        return now.total[bin];
    }

    public int draw(int bin, int tons) {
        if (!isBin(bin) || !isTons(tons)) {
            return NONE;
        }
        if (now.closed(bin)) {
            return CLOSED;
        }
        if (now.total[bin] < tons) {
            return TOO_LITTLE;
        }
        past.add(now);
        numbers.start();
        for (int grade = 0; grade < GRADES; grade++) {
            numbers.add(now.tonsBelow(bin, tons, grade));
        }
        return now.drawOut(bin, tons);
    }

    public int move(int from, int to, int tons) {
        if (!isBin(from) || !isBin(to) || from == to || !isTons(tons)) {
            return NONE;
        }
        int why = now.whyNotMove(from, to, tons);
        if (why < 0) {
            return why;
        }
        past.add(now);
        int ahead = now.valueOf(from) + now.valueOf(to);
        now.shift(from, to, tons);
        numbers.start();
        numbers.add(ahead);
        numbers.add(now.valueOf(from) + now.valueOf(to));
        return now.total[to];
    }

    public int turn(int bin) {
        if (!isBin(bin)) {
            return NONE;
        }
        if (now.closed(bin)) {
            return CLOSED;
        }
        past.add(now);
        now.turnOver(bin);
        numbers.start();
        for (int i = 0; i < now.layers[bin]; i++) {
            numbers.add(now.grade[Store.place(bin, i)]);
        }
        return now.layers[bin];
    }

    public int fumes(int bin, int n) {
        if (!isBin(bin) || n < 1 || n > MOST_FUMES) {
            return NONE;
        }
        if (now.closed(bin)) {
            return CLOSED;
        }
        past.add(now);
        now.fumigate(bin, n);
        return now.open[bin];
    }

    public int days(int n) {
        if (n < 1 || n > MOST_GO_BY || now.day + n > MOST_DAY) {
            return NONE;
        }
        past.add(now);
        now.day += n;
        return now.day;
    }

    public int price(int grade, int w) {
        if (!isGrade(grade) || w < 0 || w > MOST_WORTH) {
            return NONE;
        }
        past.add(now);
        int was = now.worth[grade];
        now.worth[grade] = w;
        return was;
    }

    public int sells() {
        int count = readOrders();
        if (count < 0) {
            return count;
        }
        int served = drawing.serve();
        past.add(now);
        int ahead = now.valueOfAll(now.day);
        int drawn = 0;
        for (int i = 0; i < served; i++) {
            drawn += now.drawOut(drawing.bestWay[i], orders.tons[i]);
        }
        numbers.start();
        numbers.add(drawn);
        numbers.add(ahead);
        numbers.add(now.valueOfAll(now.day));
        return served;
    }

    // ---- worth

    public int value(int bin) {
        if (!isBin(bin)) {
            return NONE;
        }
        numbers.start();
        numbers.add(now.raw(bin, now.day));
        numbers.add(now.mixedIn(bin));
        numbers.add(now.rawUnspoilt(bin));
        return now.valueOf(bin);
    }

    public int all() {
        numbers.start();
        for (int bin = 0; bin < BINS; bin++) {
            numbers.add(now.valueOf(bin));
        }
        return now.valueOfAll(now.day);
    }

    public int mixed(int grade) {
        if (!isGrade(grade)) {
            return NONE;
        }
        numbers.start();
        int sum = 0;
        for (int other = 0; other < GRADES; other++) {
            int cost = 0;
            for (int bin = 0; bin < BINS; bin++) {
                cost += now.mixedOf(bin, grade, other);
            }
            numbers.add(cost);
            sum += cost;
        }
        return sum;
    }

    public int would(int grade, int tons, int bin) {
        if (!isGrade(grade) || !isTons(tons) || !isBin(bin)) {
            return NONE;
        }
        int why = now.why(bin, grade, tons, now.day);
        if (why < 0) {
            return WOULD_NOT + why;
        }
        int more = now.gain(bin, grade, tons);
        numbers.start();
        numbers.add(now.valueOf(bin) + more);
        numbers.add(now.mixedIn(bin) + now.growth(bin, grade, tons));
        return more;
    }

    public int worst() {
        int most = 0;
        int pair = NOTHING;
        int where = NONE;
        for (int bin = 0; bin < BINS; bin++) {
            for (int a = 0; a < GRADES; a++) {
                for (int b = a + 1; b < GRADES; b++) {
                    int cost = now.mixedOf(bin, a, b);
                    if (cost > most) {
                        most = cost;
                        pair = 10 * a + b;
                        where = bin;
                    }
                }
            }
        }
        if (most > 0) {
            numbers.start();
            numbers.add(most);
            numbers.add(where);
        }
        return pair;
    }

    public int dear() {
        int dearest = NOTHING;
        int most = 0;
        for (int grade = 0; grade < GRADES; grade++) {
            int worth = now.worthOfAll(grade);
            if (worth > most) {
                most = worth;
                dearest = grade;
            }
        }
        if (most > 0) {
            numbers.start();
            for (int grade = 0; grade < GRADES; grade++) {
                numbers.add(now.worthOfAll(grade));
            }
        }
        return dearest;
    }

    // ---- where it would lie best

    public int best(int grade, int tons) {
        if (!isGrade(grade) || !isTons(tons)) {
            return NONE;
        }
        int found = NOTHING;
        int most = 0;
        for (int bin = 0; bin < BINS; bin++) {
            if (now.why(bin, grade, tons, now.day) == 0) {
                int more = now.gain(bin, grade, tons);
                if (found < 0 || more > most) {
                    found = bin;
                    most = more;
                }
            }
        }
        if (found >= 0) {
            numbers.start();
            numbers.add(most);
        }
        return found;
    }

    public int lays() {
        int count = readOrders();
        if (count < 0) {
            return count;
        }
        orders.comeOn(now.day);
        int growth = laying.leastGrowth(now, NONE);
        if (growth < 0) {
            return NOTHING;
        }
        numbers.start();
        numbers.add(now.worthOfLoads(orders) - growth);
        for (int i = 0; i < count; i++) {
            numbers.add(laying.bestWay[i]);
        }
        return count;
    }

    public int few() {
        int count = readOrders();
        if (count < 0) {
            return count;
        }
        orders.comeOn(now.day);
        int bits = laying.fewestBins(now);
        if (bits < 0) {
            return NOTHING;
        }
        numbers.start();
        numbers.add(bits);
        return Integer.bitCount(bits);
    }

    public int room(int grade) {
        if (!isGrade(grade)) {
            return NONE;
        }
        int most = 0;
        int where = NONE;
        for (int bin = 0; bin < BINS; bin++) {
            int free = rules.cap[bin] - now.total[bin];
            if (free > most && now.why(bin, grade, free, now.day) == 0) {
                most = free;
                where = bin;
            }
        }
        numbers.start();
        numbers.add(where);
        return most;
    }

    public int takers(int tons) {
        if (!isTons(tons)) {
            return NONE;
        }
        int bits = 0;
        numbers.start();
        for (int grade = 0; grade < GRADES; grade++) {
            int takers = 0;
            for (int bin = 0; bin < BINS; bin++) {
                if (now.why(bin, grade, tons, now.day) == 0) {
                    takers++;
                    bits |= 1 << bin;
                }
            }
            numbers.add(takers);
        }
        return bits;
    }

    // ---- drawn in order

    public int bottom(int bin) {
        if (!isBin(bin)) {
            return NONE;
        }
        if (now.layers[bin] == 0) {
            return NOTHING;
        }
        int lowest = now.grade[Store.place(bin, 0)];
        int end = now.runEnd(bin, 0);
        numbers.start();
        numbers.add(now.tonsUnder(bin, end));
        numbers.add(end);
        return lowest;
    }

    public int reaches(int grade, int tons) {
        if (!isGrade(grade) || !isTons(tons)) {
            return NONE;
        }
        int least = NOTHING;
        int where = NONE;
        for (int bin = 0; bin < BINS; bin++) {
            int ahead = now.closed(bin) ? NOTHING : now.aheadOf(bin, grade, tons);
            if (ahead >= 0 && (least < 0 || ahead < least)) {
                least = ahead;
                where = bin;
            }
        }
        if (least >= 0) {
            numbers.start();
            numbers.add(where);
        }
        return least;
    }

    public int serves() {
        int count = readOrders();
        if (count < 0) {
            return count;
        }
        int served = drawing.serve();
        numbers.start();
        for (int i = 0; i < served; i++) {
            numbers.add(drawing.bestWay[i]);
        }
        return served;
    }

    public int picks() {
        int count = readOrders();
        if (count < 0) {
            return count;
        }
        int picked = drawing.pick();
        numbers.start();
        for (int i = 0; i < count; i++) {
            numbers.add(drawing.bestWay[i]);
        }
        return picked;
    }

    public int empties(int bin) {
        if (!isBin(bin)) {
            return NONE;
        }
        if (now.closed(bin)) {
            return CLOSED;
        }
        orders.takeLayers(now, bin);
        int growth = laying.leastGrowth(now, bin);
        if (growth < 0) {
            return NO_WAY;
        }
        numbers.start();
        for (int i = 0; i < orders.count; i++) {
            numbers.add(laying.bestWay[i]);
        }
        return growth;
    }

    // ---- days to come

    public int then(int d) {
        if (d < 0 || d > MOST_AHEAD) {
            return NONE;
        }
        int value = now.valueOfAll(now.day + d);
        numbers.start();
        numbers.add(now.valueOfAll(now.day) - value);
        numbers.add(now.spoiltGrades(now.day + d));
        return value;
    }

    public int falls(int bin, int v) {
        if (!isBin(bin)) {
            return NONE;
        }
        // VALUE never grows by days alone: so the days on which it is not below v come first
        int held = 0;
        for (int step = 512; step > 0; step /= 2) {
            int last = held + step - 1;
            if (last <= MOST_AHEAD && now.valueThen(bin, now.day + last) >= v) {
                held += step;
            }
        }
        return held <= MOST_AHEAD ? held : NOTHING;
    }

    public int old() {
        int sum = 0;
        int bits = 0;
        numbers.start();
        for (int bin = 0; bin < BINS; bin++) {
            int spoilt = now.spoiltTons(bin);
            numbers.add(spoilt);
            sum += spoilt;
            if (spoilt > 0) {
                bits |= 1 << bin;
            }
        }
        numbers.add(bits);
        return sum;
    }

    public int cures(int n, int d) {
        if (n < 1 || n > MOST_FUMES || d < 0 || d > MOST_AHEAD) {
            return NONE;
        }
        int found = NOTHING;
        int most = 0;
        for (int bin = 0; bin < BINS; bin++) {
            int more = now.closed(bin) ? 0 : now.cureOf(bin, n, d);
            if (more > most) {
                found = bin;
                most = more;
            }
        }
        if (found >= 0) {
            numbers.start();
            numbers.add(most);
        }
        return found;
    }

    // ---- taken back, kept, counted

    public int undo() {
        return past.takeBack(now) ? past.count : NOTHING;
    }

    public int keeps() {
        kept.copy(now);
        somethingKept = true;
        return now.day;
    }

    public int back() {
        if (!somethingKept) {
            return NOTHING;
        }
        past.add(now);
        now.copy(kept);
        return now.day;
    }

    public int written(int i) {
        script.write(now);
        if (i == NONE) {
            return script.length;
        }
        return script.signAt(i);
    }

    public int count(int what) {
        switch (what) {
            case 0:
                return now.day;
            case 1:
                return now.tonsInAll();
            case 2:
                return now.layersInAll();
            case 3:
                return now.closedBins();
            case 4:
                return now.emptyBins();
            case 5:
                return past.count;
            case 6:
                return now.drawn;
            case 7:
                return numbers.count;
            case 8:
                return text.length;
            default:
                return NONE;
        }
    }

    public long row(int i) throws NoSuchElementException {
        if (i < 0 || i >= numbers.count) {
            throw new NoSuchElementException();
        }
        return numbers.at[i];
    }

    private static boolean isGrade(int grade) {
        return grade >= 0 && grade < GRADES;
    }

    private static boolean isBin(int bin) {
        return bin >= 0 && bin < BINS;
    }

    private static boolean isTons(int tons) {
        return tons >= 1 && tons <= MOST_TONS;
    }

    private int readOrders() {
        text.start();
        int count = orders.read(text);
        text.clear();
        return count;
    }

    /** THE TEXT, and how far it is read; what can't be read leaves the reader at the sign at fault. */
    static final class Text {
        static final int MOST = 200;
        final int[] signs = new int[MOST];
        int length;
        int at;

        boolean add(int v) {
            if (length + 4 > MOST) {
                return false;
            }
            for (int shift = 24; shift >= 0; shift -= 8) {
                signs[length] = (v >>> shift) & 255;
                length++;
            }
            return true;
        }

        boolean cut(int n) {
            if (n < 0 || n > length) {
                return false;
            }
            length = n;
            return true;
        }

        void clear() {
            length = 0;
        }

        void start() {
            at = 0;
        }

        boolean ended() {
            return at >= length;
        }

        int fault() {
            return FAULT - at;
        }

        boolean takes(char sign) {
            if (ended() || signs[at] != sign) {
                return false;
            }
            at++;
            return true;
        }

        /** The number of a GRADE or BIN, if it is none of those told (bits). */
        int newNumber(int told) {
            if (ended() || signs[at] < '0' || signs[at] >= '0' + GRADES) {
                return NONE;
            }
            int number = signs[at] - '0';
            if ((told & 1 << number) != 0) {
                return NONE;
            }
            at++;
            return number;
        }

        int number(int least, int most) {
            int number = 0;
            int digits = 0;
            for (int room = most; room > 0 && digitFits(number, digits); room /= 10) {
                number = 10 * number + signs[at] - '0';
                digits++;
                at++;
            }
            if (digits == 0) {
                return NONE;
            }
            if (number < least || number > most) {
                at--;
                return NONE;
            }
            return number;
        }

        private boolean digitFits(int number, int digits) {
            boolean noughtAhead = digits > 0 && number == 0;
            return !ended() && !noughtAhead && signs[at] >= '0' && signs[at] <= '9';
        }
    }

    /** What a text of LINES tells. */
    static final class Rules {
        final int[] firstWorth = new int[GRADES];
        final int[] keep = new int[GRADES];
        final int[] cap = new int[BINS];
        final int[] loss = new int[GRADES * GRADES];
        final int[] apart = new int[GRADES];
        private final int[] toldWith = new int[GRADES];
        private int toldGrades;
        private int toldBins;

        Rules() {
            for (int grade = 0; grade < GRADES; grade++) {
                keep[grade] = MOST_KEEP;
            }
        }

        void copy(Rules from) {
            for (int grade = 0; grade < GRADES; grade++) {
                firstWorth[grade] = from.firstWorth[grade];
                keep[grade] = from.keep[grade];
                apart[grade] = from.apart[grade];
            }
            for (int bin = 0; bin < BINS; bin++) {
                cap[bin] = from.cap[bin];
            }
            for (int i = 0; i < GRADES * GRADES; i++) {
                loss[i] = from.loss[i];
            }
        }

        boolean may(int grade, int other) {
            return (apart[grade] & 1 << other) == 0;
        }

        int lossOf(int grade, int other) {
            return loss[grade * GRADES + other];
        }

        /** How many LINES THE TEXT tells, or its fault. */
        int read(Text text) {
            clear();
            if (text.ended()) {
                return 0;
            }
            for (int lines = 1; lines <= Text.MOST; lines++) {
                if (!readLine(text)) {
                    return text.fault();
                }
                if (text.ended()) {
                    return lines;
                }
                if (!text.takes(';')) {
                    return text.fault();
                }
            }
            return text.fault();
        }

        private void clear() {
            for (int grade = 0; grade < GRADES; grade++) {
                firstWorth[grade] = 0;
                keep[grade] = MOST_KEEP;
                apart[grade] = 0;
                toldWith[grade] = 0;
            }
            for (int bin = 0; bin < BINS; bin++) {
                cap[bin] = 0;
            }
            for (int i = 0; i < GRADES * GRADES; i++) {
                loss[i] = 0;
            }
            toldGrades = 0;
            toldBins = 0;
        }

        private boolean readLine(Text text) {
            if (text.takes('g')) {
                return readGrade(text);
            }
            if (text.takes('b')) {
                return readBin(text);
            }
            if (text.takes('l')) {
                return readPair(text, true);
            }
            return text.takes('x') && readPair(text, false);
        }

        private boolean readGrade(Text text) {
            int grade = text.newNumber(toldGrades);
            if (grade < 0 || !text.takes('w')) {
                return false;
            }
            int worth = text.number(0, MOST_WORTH);
            if (worth < 0 || !text.takes('k')) {
                return false;
            }
            int days = text.number(0, MOST_KEEP);
            if (days < 0) {
                return false;
            }
            firstWorth[grade] = worth;
            keep[grade] = days;
            toldGrades |= 1 << grade;
            return true;
        }

        private boolean readBin(Text text) {
            int bin = text.newNumber(toldBins);
            if (bin < 0 || !text.takes('c')) {
                return false;
            }
            int most = text.number(0, MOST_CAP);
            if (most < 0) {
                return false;
            }
            cap[bin] = most;
            toldBins |= 1 << bin;
            return true;
        }

        private boolean readPair(Text text, boolean withLoss) {
            int grade = text.newNumber(0);
            if (grade < 0) {
                return false;
            }
            int other = text.newNumber(toldWith[grade] | 1 << grade);
            if (other < 0) {
                return false;
            }
            int cost = withLoss ? text.number(1, MOST_LOSS) : 0;
            if (cost < 0) {
                return false;
            }
            loss[grade * GRADES + other] = cost;
            loss[other * GRADES + grade] = cost;
            toldWith[grade] |= 1 << other;
            toldWith[other] |= 1 << grade;
            if (!withLoss) {
                apart[grade] |= 1 << other;
                apart[other] |= 1 << grade;
            }
            return true;
        }
    }

    /** All that acts can change: WORTH, DAY, what lies, what is CLOSED, what was drawn. */
    static final class Store {
        final Rules rules;
        final int[] worth = new int[GRADES];
        final int[] open = new int[BINS];
        final int[] layers = new int[BINS];
        final int[] total = new int[BINS];
        final int[] grade = new int[BINS * LAYERS];
        final int[] tons = new int[BINS * LAYERS];
        final int[] since = new int[BINS * LAYERS];
        final int[] has = new int[BINS * GRADES];
        int day;
        int drawn;

        Store(Rules rules) {
            this.rules = rules;
        }

        static int place(int bin, int i) {
            return bin * LAYERS + i;
        }

        void copy(Store from) {
            for (int i = 0; i < GRADES; i++) {
                worth[i] = from.worth[i];
            }
            for (int bin = 0; bin < BINS; bin++) {
                open[bin] = from.open[bin];
                copyBin(from, bin);
            }
            day = from.day;
            drawn = from.drawn;
        }

        private void copyBin(Store from, int bin) {
            layers[bin] = from.layers[bin];
            total[bin] = from.total[bin];
            for (int i = 0; i < GRADES; i++) {
                has[bin * GRADES + i] = from.has[bin * GRADES + i];
            }
            for (int i = 0; i < from.layers[bin]; i++) {
                int p = place(bin, i);
                grade[p] = from.grade[p];
                tons[p] = from.tons[p];
                since[p] = from.since[p];
            }
        }

        /** Empty BINS on the first DAY, WORTH as the rules tell. */
        void clear() {
            for (int i = 0; i < GRADES; i++) {
                worth[i] = rules.firstWorth[i];
            }
            for (int bin = 0; bin < BINS; bin++) {
                open[bin] = 0;
                layers[bin] = 0;
                total[bin] = 0;
            }
            for (int i = 0; i < BINS * GRADES; i++) {
                has[i] = 0;
            }
            day = 0;
            drawn = 0;
        }

        boolean closed(int bin) {
            return day < open[bin];
        }

        int gradesIn(int bin) {
            int bits = 0;
            for (int g = 0; g < GRADES; g++) {
                if (has[bin * GRADES + g] > 0) {
                    bits |= 1 << g;
                }
            }
            return bits;
        }

        int tonsOf(int g) {
            int sum = 0;
            for (int bin = 0; bin < BINS; bin++) {
                sum += has[bin * GRADES + g];
            }
            return sum;
        }

        int tonsInAll() {
            int sum = 0;
            for (int bin = 0; bin < BINS; bin++) {
                sum += total[bin];
            }
            return sum;
        }

        int layersInAll() {
            int sum = 0;
            for (int bin = 0; bin < BINS; bin++) {
                sum += layers[bin];
            }
            return sum;
        }

        int closedBins() {
            int bits = 0;
            for (int bin = 0; bin < BINS; bin++) {
                if (closed(bin)) {
                    bits |= 1 << bin;
                }
            }
            return bits;
        }

        int emptyBins() {
            int bits = 0;
            for (int bin = 0; bin < BINS; bin++) {
                if (layers[bin] == 0) {
                    bits |= 1 << bin;
                }
            }
            return bits;
        }

        /** 0, or why so many TONS may not lie in a BIN. */
        int why(int bin, int g, int much, int day0) {
            if (closed(bin)) {
                return CLOSED;
            }
            if (total[bin] + much > rules.cap[bin]) {
                return NO_ROOM;
            }
            if ((gradesIn(bin) & rules.apart[g]) != 0) {
                return APART;
            }
            boolean full = layers[bin] >= LAYERS && !onTop(bin, g, day0);
            return full ? TOO_MANY_LAYERS : 0;
        }

        private boolean onTop(int bin, int g, int day0) {
            if (layers[bin] == 0) {
                return false;
            }
            int top = place(bin, layers[bin] - 1);
            return grade[top] == g && since[top] == day0;
        }

        void lay(int bin, int g, int much, int day0) {
            if (onTop(bin, g, day0)) {
                tons[place(bin, layers[bin] - 1)] += much;
            } else if (layers[bin] < LAYERS) {
                int p = place(bin, layers[bin]);
                grade[p] = g;
                tons[p] = much;
                since[p] = day0;
                layers[bin]++;
            } else {
                return;
            }
            total[bin] += much;
            has[bin * GRADES + g] += much;
        }

        /** Takes from the top what lay() put there last. */
        void unlay(int bin, int much) {
            if (layers[bin] == 0) {
                return;
            }
            int top = place(bin, layers[bin] - 1);
            tons[top] -= much;
            total[bin] -= much;
            has[bin * GRADES + grade[top]] -= much;
            if (tons[top] == 0) {
                layers[bin]--;
            }
        }

        /** What of the i-th LAYER is among the lowest TONS of its BIN. */
        private int partBelow(int bin, int i, int much) {
            int under = tonsUnder(bin, i);
            return Math.max(0, Math.min(tons[place(bin, i)], much - under));
        }

        int tonsUnder(int bin, int end) {
            int sum = 0;
            for (int i = 0; i < end && i < layers[bin]; i++) {
                sum += tons[place(bin, i)];
            }
            return sum;
        }

        int tonsBelow(int bin, int much, int g) {
            int sum = 0;
            for (int i = 0; i < layers[bin]; i++) {
                if (grade[place(bin, i)] == g) {
                    sum += partBelow(bin, i, much);
                }
            }
            return sum;
        }

        /** Draws the lowest TONS, counts them: what they count for. */
        int drawOut(int bin, int much) {
            int least = MOST_WORTH;
            for (int i = 0; i < layers[bin]; i++) {
                if (partBelow(bin, i, much) > 0) {
                    least = Math.min(least, unit(place(bin, i), day));
                }
            }
            take(bin, much);
            int sum = much * least;
            drawn = Math.min(MOST_DRAWN, drawn + sum);
            return sum;
        }

        private void take(int bin, int much) {
            int left = much;
            int stay = 0;
            for (int i = 0; i < layers[bin]; i++) {
                int p = place(bin, i);
                int part = Math.min(left, tons[p]);
                left -= part;
                total[bin] -= part;
                has[bin * GRADES + grade[p]] -= part;
                if (part < tons[p]) {
                    int q = place(bin, stay);
                    tons[q] = tons[p] - part;
                    grade[q] = grade[p];
                    since[q] = since[p];
                    stay++;
                }
            }
            layers[bin] = stay;
        }

        int whyNotMove(int from, int to, int much) {
            if (closed(from) || closed(to)) {
                return CLOSED;
            }
            if (total[from] < much) {
                return TOO_LITTLE;
            }
            if (total[to] + much > rules.cap[to]) {
                return NO_ROOM;
            }
            int there = gradesIn(to);
            for (int i = 0; i < layers[from]; i++) {
                if (partBelow(from, i, much) > 0 && (there & rules.apart[grade[place(from, i)]]) != 0) {
                    return APART;
                }
            }
            return layersWith(from, to, much) > LAYERS ? TOO_MANY_LAYERS : 0;
        }

        /** LAYERS of a BIN, if the lowest TONS of another one came to it. */
        private int layersWith(int from, int to, int much) {
            int sum = layers[to];
            for (int i = 0; i < layers[from]; i++) {
                // LAYERS on one another are never alike, so none but the lowest can join what lies on top
                boolean joins = i == 0 && onTop(to, grade[place(from, 0)], since[place(from, 0)]);
                if (partBelow(from, i, much) > 0 && !joins) {
                    sum++;
                }
            }
            return sum;
        }

        void shift(int from, int to, int much) {
            for (int i = 0; i < layers[from]; i++) {
                int part = partBelow(from, i, much);
                if (part > 0) {
                    lay(to, grade[place(from, i)], part, since[place(from, i)]);
                }
            }
            take(from, much);
        }

        void turnOver(int bin) {
            int n = layers[bin];
            for (int i = 0; i < n / 2; i++) {
                swap(place(bin, i), place(bin, n - 1 - i));
            }
            join(bin);
        }

        private void swap(int p, int q) {
            int g = grade[p];
            int much = tons[p];
            int day0 = since[p];
            grade[p] = grade[q];
            tons[p] = tons[q];
            since[p] = since[q];
            grade[q] = g;
            tons[q] = much;
            since[q] = day0;
        }

        void fumigate(int bin, int n) {
            open[bin] = day + n;
            for (int i = 0; i < layers[bin]; i++) {
                since[place(bin, i)] = open[bin];
            }
            join(bin);
        }

        /** LAYERS on one another of one GRADE and SINCE become one. */
        private void join(int bin) {
            int n = layers[bin];
            layers[bin] = 0;
            total[bin] = 0;
            for (int g = 0; g < GRADES; g++) {
                has[bin * GRADES + g] = 0;
            }
            for (int i = 0; i < n; i++) {
                int p = place(bin, i);
                lay(bin, grade[p], tons[p], since[p]);
            }
        }

        int unit(int p, int on) {
            int g = grade[p];
            int late = Math.max(0, on - since[p] - rules.keep[g]);
            return Math.max(0, worth[g] - late);
        }

        int raw(int bin, int on) {
            int sum = 0;
            for (int i = 0; i < layers[bin]; i++) {
                int p = place(bin, i);
                sum += tons[p] * unit(p, on);
            }
            return sum;
        }

        int rawUnspoilt(int bin) {
            int sum = 0;
            for (int g = 0; g < GRADES; g++) {
                sum += has[bin * GRADES + g] * worth[g];
            }
            return sum;
        }

        int mixedOf(int bin, int g, int other) {
            int fewer = Math.min(has[bin * GRADES + g], has[bin * GRADES + other]);
            return rules.lossOf(g, other) * fewer;
        }

        int mixedIn(int bin) {
            int sum = 0;
            for (int g = 0; g < GRADES; g++) {
                for (int other = g + 1; other < GRADES; other++) {
                    sum += mixedOf(bin, g, other);
                }
            }
            return sum;
        }

        int valueOf(int bin) {
            return valueThen(bin, day);
        }

        int valueThen(int bin, int on) {
            return raw(bin, on) - mixedIn(bin);
        }

        int valueOfAll(int on) {
            int sum = 0;
            for (int bin = 0; bin < BINS; bin++) {
                sum += valueThen(bin, on);
            }
            return sum;
        }

        int worthOfAll(int g) {
            int sum = 0;
            for (int bin = 0; bin < BINS; bin++) {
                for (int i = 0; i < layers[bin]; i++) {
                    int p = place(bin, i);
                    if (grade[p] == g) {
                        sum += tons[p] * unit(p, day);
                    }
                }
            }
            return sum;
        }

        int worthOfLoads(Orders loads) {
            int sum = 0;
            for (int i = 0; i < loads.count; i++) {
                sum += loads.tons[i] * worth[loads.grade[i]];
            }
            return sum;
        }

        /** By how much MIXED of a BIN grows with so many TONS more. */
        int growth(int bin, int g, int much) {
            int here = has[bin * GRADES + g];
            int sum = 0;
            for (int other = 0; other < GRADES; other++) {
                int there = has[bin * GRADES + other];
                // a GRADE has no LOSS with itself
                sum += rules.lossOf(g, other) * (Math.min(here + much, there) - Math.min(here, there));
            }
            return sum;
        }

        /** By how much VALUE of a BIN grows with so many TONS more that come now. */
        int gain(int bin, int g, int much) {
            return much * worth[g] - growth(bin, g, much);
        }

        /** The first LAYER above the i-th that is of another GRADE. */
        int runEnd(int bin, int i) {
            int end = i + 1;
            for (int k = i + 1; k < layers[bin] && grade[place(bin, k)] == grade[place(bin, i)]; k++) {
                end = k + 1;
            }
            return end;
        }

        /** TONS below the lowest so many of a GRADE that lie without another one between, or -2. */
        int aheadOf(int bin, int g, int much) {
            for (int i = 0; i < layers[bin]; i++) {
                if (grade[place(bin, i)] == g) {
                    int under = tonsUnder(bin, i);
                    if (tonsUnder(bin, runEnd(bin, i)) - under >= much) {
                        return under;
                    }
                }
            }
            return NOTHING;
        }

        private boolean spoilt(int p, int on) {
            return unit(p, on) < worth[grade[p]];
        }

        int spoiltGrades(int on) {
            int bits = 0;
            for (int bin = 0; bin < BINS; bin++) {
                for (int i = 0; i < layers[bin]; i++) {
                    int p = place(bin, i);
                    if (spoilt(p, on)) {
                        bits |= 1 << grade[p];
                    }
                }
            }
            return bits;
        }

        int spoiltTons(int bin) {
            int sum = 0;
            for (int i = 0; i < layers[bin]; i++) {
                int p = place(bin, i);
                if (spoilt(p, day)) {
                    sum += tons[p];
                }
            }
            return sum;
        }

        /** How much more a BIN's VALUE is in d days, if it is fumigated now for n days. */
        int cureOf(int bin, int n, int d) {
            int sum = 0;
            for (int i = 0; i < layers[bin]; i++) {
                int p = place(bin, i);
                int late = Math.max(0, d - n - rules.keep[grade[p]]);
                int cured = Math.max(0, worth[grade[p]] - late);
                sum += tons[p] * (cured - unit(p, day + d));
            }
            return sum;
        }
    }

    /** The latest acts: how all was ahead of each. */
    static final class Past {
        static final int MOST = 8;
        private final Store[] ahead = new Store[MOST];
        private int next;
        int count;

        Past(Rules rules) {
            for (int i = 0; i < MOST; i++) {
                ahead[i] = new Store(rules);
            }
        }

        void clear() {
            count = 0;
        }

        void add(Store now) {
            ahead[next].copy(now);
            next = (next + 1) % MOST;
            count = Math.min(MOST, count + 1);
        }

        boolean takeBack(Store now) {
            if (count == 0) {
                return false;
            }
            next = (next + MOST - 1) % MOST;
            now.copy(ahead[next]);
            count--;
            return true;
        }
    }

    /** The ROW. */
    static final class Row {
        static final int MOST = 8;
        final long[] at = new long[MOST];
        int count;

        void start() {
            count = 0;
        }

        void add(long number) {
            if (count < MOST) {
                at[count] = number;
                count++;
            }
        }
    }

    /** ORDERS or LOADS, one behind another. */
    static final class Orders {
        static final int MOST = 6;
        final int[] grade = new int[MOST];
        final int[] tons = new int[MOST];
        final int[] since = new int[MOST];
        int count;

        /** How many THE TEXT tells, or its fault. */
        int read(Text text) {
            count = 0;
            if (text.ended()) {
                return 0;
            }
            for (int i = 0; i < MOST; i++) {
                if (!readOne(text, i)) {
                    return text.fault();
                }
                if (text.ended()) {
                    count = i + 1;
                    return count;
                }
                if (i == MOST - 1 || !text.takes(',')) {
                    return text.fault();
                }
            }
            return text.fault();
        }

        private boolean readOne(Text text, int i) {
            int g = text.newNumber(0);
            if (g < 0 || !text.takes(':')) {
                return false;
            }
            int much = text.number(1, MOST_TONS);
            if (much < 0) {
                return false;
            }
            grade[i] = g;
            tons[i] = much;
            return true;
        }

        void comeOn(int day) {
            for (int i = 0; i < count; i++) {
                since[i] = day;
            }
        }

        void takeLayers(Store store, int bin) {
            count = Math.min(MOST, store.layers[bin]);
            for (int i = 0; i < count; i++) {
                int p = Store.place(bin, i);
                grade[i] = store.grade[p];
                tons[i] = store.tons[p];
                since[i] = store.since[p];
            }
        }
    }

    /** Ways to lay loads in BINS, tried in thought, the first rows first. */
    static final class Laying {
        private static final int NO_GROWTH_YET = 1000000000;
        private final Store thought;
        private final Orders loads;
        private final int[] way = new int[Orders.MOST];
        final int[] bestWay = new int[Orders.MOST];
        private int skip;
        private int least;
        private int bits;

        Laying(Rules rules, Orders loads) {
            thought = new Store(rules);
            this.loads = loads;
        }

        /** The least by which MIXED must grow, or NONE; a BIN to be left alone, or NONE. */
        int leastGrowth(Store now, int leftAlone) {
            start(now, leftAlone);
            least = NO_GROWTH_YET;
            if (mightLie()) {
                layCheapest(this, 0, 0);
            }
            return least < NO_GROWTH_YET ? least : NONE;
        }

        /** The fewest BINS, of as few the least bits, or NONE. */
        int fewestBins(Store now) {
            start(now, NONE);
            bits = NONE;
            if (mightLie()) {
                layFewest(this, 0, 0);
            }
            return bits;
        }

        private void start(Store now, int leftAlone) {
            thought.copy(now);
            skip = leftAlone;
        }

        /** Where a load may not lie at first, it may not lie after others came either: so some ways need no try. */
        private boolean mightLie() {
            for (int i = 0; i < loads.count; i++) {
                boolean some = false;
                for (int bin = 0; bin < BINS && !some; bin++) {
                    some = mayLie(bin, i);
                }
                if (!some) {
                    return false;
                }
            }
            return true;
        }

        private boolean mayLie(int bin, int i) {
            return bin != skip && thought.why(bin, loads.grade[i], loads.tons[i], loads.since[i]) == 0;
        }

        private void lay(int bin, int i) {
            way[i] = bin;
            thought.lay(bin, loads.grade[i], loads.tons[i], loads.since[i]);
        }

        private void takeWay() {
            for (int i = 0; i < loads.count; i++) {
                bestWay[i] = way[i];
            }
        }

        /** MIXED never shrinks by what comes, so a way that costs no less already is given up. */
        private static void layCheapest(Laying s, int at, int growth) {
            if (growth >= s.least || at > s.loads.count) {
                return;
            }
            if (at == s.loads.count) {
                s.least = growth;
                s.takeWay();
                return;
            }
            for (int bin = 0; bin < BINS; bin++) {
                if (s.mayLie(bin, at)) {
                    int more = s.thought.growth(bin, s.loads.grade[at], s.loads.tons[at]);
                    s.lay(bin, at);
                    layCheapest(s, at + 1, growth + more);
                    s.thought.unlay(bin, s.loads.tons[at]);
                }
            }
        }

        private static void layFewest(Laying s, int at, int used) {
            if (!s.isFewer(used) || at > s.loads.count) {
                return;
            }
            if (at == s.loads.count) {
                s.bits = used;
                return;
            }
            for (int bin = 0; bin < BINS; bin++) {
                if (s.mayLie(bin, at)) {
                    s.lay(bin, at);
                    layFewest(s, at + 1, used | 1 << bin);
                    s.thought.unlay(bin, s.loads.tons[at]);
                }
            }
        }

        private boolean isFewer(int used) {
            if (bits < 0) {
                return true;
            }
            int more = Integer.bitCount(used) - Integer.bitCount(bits);
            return more < 0 || more == 0 && used < bits;
        }
    }

    /** Ways to draw ORDERS from BINS, tried in thought, the first rows first; behind each call nothing is gone. */
    static final class Drawing {
        private static final int LEFT_OUT = BINS;
        private final Store store;
        private final Orders orders;
        private final int[] gone = new int[BINS];
        private final int[] way = new int[Orders.MOST];
        final int[] bestWay = new int[Orders.MOST];
        private int most;

        Drawing(Store store, Orders orders) {
            this.store = store;
            this.orders = orders;
        }

        /** How many ORDERS can be drawn, from the first one on. */
        int serve() {
            most = 0;
            serveFrom(this, 0);
            return most;
        }

        /** How many ORDERS can be drawn, if others are left out. */
        int pick() {
            most = NONE;
            pickFrom(this, 0, 0);
            return most;
        }

        private boolean canDraw(int bin, int i) {
            if (store.closed(bin)) {
                return false;
            }
            int left = orders.tons[i];
            int under = gone[bin];
            for (int k = 0; k < store.layers[bin] && left > 0; k++) {
                int p = Store.place(bin, k);
                int rest = Math.max(0, store.tons[p] - under);
                under = Math.max(0, under - store.tons[p]);
                if (rest > 0 && store.grade[p] != orders.grade[i]) {
                    return false;
                }
                left -= rest;
            }
            return left <= 0;
        }

        private void takeWay(int count) {
            most = count;
            for (int i = 0; i < orders.count; i++) {
                bestWay[i] = way[i];
            }
        }

        private static void serveFrom(Drawing s, int at) {
            if (at > s.most) {
                s.takeWay(at);
            }
            if (at >= s.orders.count) {
                return;
            }
            for (int bin = 0; bin < BINS && s.most < s.orders.count; bin++) {
                if (s.canDraw(bin, at)) {
                    s.way[at] = bin;
                    s.gone[bin] += s.orders.tons[at];
                    serveFrom(s, at + 1);
                    s.gone[bin] -= s.orders.tons[at];
                }
            }
        }

        private static void pickFrom(Drawing s, int at, int count) {
            if (count + s.orders.count - at <= s.most || at > s.orders.count) {
                return;
            }
            if (at == s.orders.count) {
                s.takeWay(count);
                return;
            }
            for (int bin = 0; bin < BINS; bin++) {
                if (s.canDraw(bin, at)) {
                    s.way[at] = bin;
                    s.gone[bin] += s.orders.tons[at];
                    pickFrom(s, at + 1, count + 1);
                    s.gone[bin] -= s.orders.tons[at];
                }
            }
            s.way[at] = LEFT_OUT;
            pickFrom(s, at + 1, count);
        }
    }

    /** All that lies, written. */
    static final class Script {
        static final int MOST = 200;
        private final int[] signs = new int[MOST];
        int length;

        int signAt(int i) {
            return i >= 0 && i < length ? signs[i] : NONE;
        }

        void write(Store store) {
            length = 0;
            for (int bin = 0; bin < BINS; bin++) {
                if (store.layers[bin] > 0) {
                    writeBin(store, bin);
                }
            }
        }

        private void writeBin(Store store, int bin) {
            if (length > 0) {
                add(';');
            }
            add('0' + bin);
            add(':');
            for (int i = 0; i < store.layers[bin]; i++) {
                if (i > 0) {
                    add(',');
                }
                int p = Store.place(bin, i);
                add('0' + store.grade[p]);
                add('x');
                writeTons(store.tons[p]);
            }
        }

        private void writeTons(int tons) {
            if (tons >= 10) {
                add('0' + tons / 10);
            }
            add('0' + tons % 10);
        }

        private void add(int sign) {
            if (length < MOST) {
                signs[length] = sign;
                length++;
            }
        }
    }
}
