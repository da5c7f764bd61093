import java.util.ArrayDeque;
import java.util.ArrayList;
import java.util.Arrays;
import java.util.Collections;
import java.util.Deque;
import java.util.List;
import java.util.regex.Matcher;
import java.util.regex.Pattern;

/** The document once more, as plainly as it can be told: every way is tried, nothing is cut short. */
final class Model {
    record Layer(int grade, int tons, int since) {
    }

    /** All that acts can change. */
    static final class All {
        int[] worth = new int[6];
        int[] open = new int[6];
        int day;
        int drawn;
        List<List<Layer>> bins = new ArrayList<>();

        All() {
            for (int i = 0; i < 6; i++) {
                bins.add(new ArrayList<>());
            }
        }

        All copy() {
            All c = new All();
            c.worth = worth.clone();
            c.open = open.clone();
            c.day = day;
            c.drawn = drawn;
            for (int i = 0; i < 6; i++) {
                c.bins.get(i).addAll(bins.get(i));
            }
            return c;
        }
    }

    static final Pattern LINES;
    static final Pattern ORDERS;

    static {
        String line = "(g[0-5]w(0|[1-9][0-9]?[0-9]?)k(0|[1-9][0-9]?)|b[0-5]c(0|[1-9][0-9]?)"
            + "|l[0-5][0-5][1-9][0-9]?|x[0-5][0-5])";
        LINES = Pattern.compile("(" + line + "(;" + line + ")*)?");
        ORDERS = Pattern.compile("([0-5]:[1-9][0-9]?(,[0-5]:[1-9][0-9]?){0,5})?");
    }

    String text = "";
    int[] keep = new int[6];
    int[] cap = new int[6];
    int[][] loss = new int[6][6];
    boolean[][] apart = new boolean[6][6];
    All now = new All();
    All kept;
    Deque<All> past = new ArrayDeque<>();
    List<Integer> row = new ArrayList<>();

    Model() {
        Arrays.fill(keep, 99);
    }

    // ---- THE TEXT

    /** The first sign with which no text of the pattern can begin so far, or -1. */
    static int fault(Pattern pattern, String text) {
        for (int n = 1; n <= text.length(); n++) {
            Matcher m = pattern.matcher(text.substring(0, n));
            if (!m.matches() && !m.hitEnd()) {
                return n - 1;
            }
        }
        return pattern.matcher(text).matches() ? -1 : text.length();
    }

    int land() {
        String told = text;
        text = "";
        int p = fault(LINES, told);
        int q = toldTwice(p < 0 ? told : told.substring(0, p));
        if (q >= 0 || p >= 0) {
            return -21 - (q >= 0 ? q : p);
        }
        Model m = new Model();
        int n = 0;
        for (String line : told.isEmpty() ? new String[0] : told.split(";")) {
            m.line(line);
            n++;
        }
        keep = m.keep;
        cap = m.cap;
        loss = m.loss;
        apart = m.apart;
        now = m.now;
        kept = null;
        past.clear();
        return n;
    }

    static int toldTwice(String told) {
        List<String> seen = new ArrayList<>();
        int at = 0;
        for (String line : told.split(";")) {
            if (line.startsWith("g") || line.startsWith("b")) {
                if (line.length() > 1) {
                    if (seen.contains(line.substring(0, 2))) {
                        return at + 1;
                    }
                    seen.add(line.substring(0, 2));
                }
            } else if (line.length() > 2) {
                char a = line.charAt(1);
                char b = line.charAt(2);
                String two = "" + (char) Math.min(a, b) + (char) Math.max(a, b);
                if (a == b || seen.contains(two)) {
                    return at + 2;
                }
                seen.add(two);
            }
            at += line.length() + 1;
        }
        return -1;
    }

    private void line(String line) {
        int a = line.charAt(1) - '0';
        if (line.charAt(0) == 'g') {
            now.worth[a] = Integer.parseInt(line.substring(3, line.indexOf('k')));
            keep[a] = Integer.parseInt(line.substring(line.indexOf('k') + 1));
        } else if (line.charAt(0) == 'b') {
            cap[a] = Integer.parseInt(line.substring(3));
        } else if (line.charAt(0) == 'l') {
            int b = line.charAt(2) - '0';
            loss[a][b] = loss[b][a] = Integer.parseInt(line.substring(3));
        } else {
            int b = line.charAt(2) - '0';
            apart[a][b] = apart[b][a] = true;
        }
    }

    private int ordersFault;

    private List<int[]> orders() {
        String told = text;
        text = "";
        int p = fault(ORDERS, told);
        ordersFault = -21 - p;
        if (p >= 0) {
            return null;
        }
        List<int[]> all = new ArrayList<>();
        for (String order : told.isEmpty() ? new String[0] : told.split(",")) {
            all.add(new int[] {order.charAt(0) - '0', Integer.parseInt(order.substring(2))});
        }
        return all;
    }

    // ---- what lies

    static boolean no(int v, int least, int most) {
        return v < least || v > most;
    }

    int tons(All s, int bin) {
        return s.bins.get(bin).stream().mapToInt(Layer::tons).sum();
    }

    int tons(All s, int bin, int grade) {
        return s.bins.get(bin).stream().filter(l -> l.grade == grade).mapToInt(Layer::tons).sum();
    }

    int unit(All s, Layer l, int day) {
        int over = day - l.since - keep[l.grade];
        return Math.max(0, over > 0 ? s.worth[l.grade] - over : s.worth[l.grade]);
    }

    int raw(All s, int bin, int day) {
        return s.bins.get(bin).stream().mapToInt(l -> l.tons * unit(s, l, day)).sum();
    }

    int mixed(All s, int bin, int a, int b) {
        return loss[a][b] * Math.min(tons(s, bin, a), tons(s, bin, b));
    }

    int mixed(All s, int bin) {
        int sum = 0;
        for (int a = 0; a < 6; a++) {
            for (int b = 0; b < a; b++) {
                sum += mixed(s, bin, a, b);
            }
        }
        return sum;
    }

    int value(All s, int bin, int day) {
        return raw(s, bin, day) - mixed(s, bin);
    }

    int all(All s, int day) {
        int sum = 0;
        for (int bin = 0; bin < 6; bin++) {
            sum += value(s, bin, day);
        }
        return sum;
    }

    static boolean closed(All s, int bin) {
        return s.day < s.open[bin];
    }

    static void put(List<Layer> bin, Layer l) {
        int top = bin.size() - 1;
        if (top >= 0 && bin.get(top).grade == l.grade && bin.get(top).since == l.since) {
            bin.set(top, new Layer(l.grade, bin.get(top).tons + l.tons, l.since));
        } else {
            bin.add(l);
        }
    }

    /** What the lowest tons are, as layers. */
    static List<Layer> lowest(List<Layer> bin, int tons) {
        List<Layer> got = new ArrayList<>();
        int left = tons;
        for (Layer l : bin) {
            if (left > 0) {
                got.add(new Layer(l.grade, Math.min(left, l.tons), l.since));
                left -= Math.min(left, l.tons);
            }
        }
        return got;
    }

    static void takeLowest(List<Layer> bin, int tons) {
        int left = tons;
        while (left > 0) {
            Layer l = bin.remove(0);
            if (l.tons > left) {
                bin.add(0, new Layer(l.grade, l.tons - left, l.since));
            }
            left -= Math.min(left, l.tons);
        }
    }

    /** Why these layers, one behind another, may not come to a bin, or 0. */
    int why(All s, int bin, List<Layer> coming) {
        if (closed(s, bin)) {
            return -2;
        }
        if (tons(s, bin) + coming.stream().mapToInt(Layer::tons).sum() > cap[bin]) {
            return -4;
        }
        for (Layer l : coming) {
            for (Layer k : s.bins.get(bin)) {
                if (apart[l.grade][k.grade]) {
                    return -5;
                }
            }
        }
        List<Layer> then = new ArrayList<>(s.bins.get(bin));
        coming.forEach(l -> put(then, l));
        return then.size() > 6 ? -6 : 0;
    }

    int why(All s, int bin, Layer l) {
        return why(s, bin, List.of(l));
    }

    private void act() {
        past.push(now.copy());
        if (past.size() > 8) {
            past.removeLast();
        }
    }

    private int drawOut(int bin, int tons) {
        int least = 999;
        for (Layer l : lowest(now.bins.get(bin), tons)) {
            least = Math.min(least, unit(now, l, now.day));
        }
        takeLowest(now.bins.get(bin), tons);
        now.drawn = (int) Math.min(2000000000L, (long) now.drawn + tons * least);
        return tons * least;
    }

    private void tell(Integer... numbers) {
        row = new ArrayList<>(List.of(numbers));
    }

    // ---- the calls

    int sign(int v) {
        if (text.length() > 196) {
            return -1;
        }
        for (int i = 0; i < 4; i++) {
            text += (char) (v >> 24 - 8 * i & 0xff);
        }
        return text.length();
    }

    int end(int n) {
        if (no(n, 0, text.length())) {
            return 0;
        }
        text = text.substring(0, n);
        return 1;
    }

    int grade(int g, int what) {
        if (no(g, 0, 5) || no(what, 0, 2)) {
            return -1;
        }
        int sum = 0;
        for (int bin = 0; bin < 6; bin++) {
            sum += tons(now, bin, g);
        }
        return new int[] {now.worth[g], keep[g], sum}[what];
    }

    int pair(int a, int b) {
        if (no(a, 0, 5) || no(b, 0, 5)) {
            return -1;
        }
        return apart[a][b] ? -2 : loss[a][b];
    }

    int bin(int b, int what) {
        if (no(b, 0, 5) || no(what, 0, 4)) {
            return -1;
        }
        int bits = 0;
        for (Layer l : now.bins.get(b)) {
            bits |= 1 << l.grade;
        }
        int wait = closed(now, b) ? now.open[b] - now.day : 0;
        return new int[] {cap[b], tons(now, b), now.bins.get(b).size(), wait, bits}[what];
    }

    int layer(int b, int i, int what) {
        if (no(b, 0, 5) || no(i, 0, now.bins.get(b).size() - 1) || no(what, 0, 3)) {
            return -1;
        }
        Layer l = now.bins.get(b).get(i);
        return new int[] {l.grade, l.tons, l.since, unit(now, l, now.day)}[what];
    }

    int load(int g, int t, int b) {
        if (no(g, 0, 5) || no(t, 1, 99) || no(b, 0, 5)) {
            return -1;
        }
        Layer l = new Layer(g, t, now.day);
        if (why(now, b, l) < 0) {
            return why(now, b, l);
        }
        act();
        put(now.bins.get(b), l);
        return tons(now, b);
    }

    int draw(int b, int t) {
        if (no(b, 0, 5) || no(t, 1, 99)) {
            return -1;
        }
        if (closed(now, b) || tons(now, b) < t) {
            return closed(now, b) ? -2 : -3;
        }
        act();
        tell(0, 0, 0, 0, 0, 0);
        for (Layer l : lowest(now.bins.get(b), t)) {
            row.set(l.grade, row.get(l.grade) + l.tons);
        }
        return drawOut(b, t);
    }

    int move(int from, int to, int t) {
        if (no(from, 0, 5) || no(to, 0, 5) || from == to || no(t, 1, 99)) {
            return -1;
        }
        if (closed(now, from) || closed(now, to)) {
            return -2;
        }
        if (tons(now, from) < t) {
            return -3;
        }
        List<Layer> going = lowest(now.bins.get(from), t);
        if (why(now, to, going) < 0) {
            return why(now, to, going);
        }
        act();
        int ahead = value(now, from, now.day) + value(now, to, now.day);
        takeLowest(now.bins.get(from), t);
        going.forEach(l -> put(now.bins.get(to), l));
        tell(ahead, value(now, from, now.day) + value(now, to, now.day));
        return tons(now, to);
    }

    private void lieAgain(int b, List<Layer> layers) {
        now.bins.get(b).clear();
        layers.forEach(l -> put(now.bins.get(b), l));
    }

    int turn(int b) {
        if (no(b, 0, 5) || closed(now, b)) {
            return no(b, 0, 5) ? -1 : -2;
        }
        act();
        List<Layer> layers = new ArrayList<>(now.bins.get(b));
        Collections.reverse(layers);
        lieAgain(b, layers);
        row = new ArrayList<>();
        now.bins.get(b).forEach(l -> row.add(l.grade));
        return row.size();
    }

    int fumes(int b, int n) {
        if (no(b, 0, 5) || no(n, 1, 20) || closed(now, b)) {
            return no(b, 0, 5) || no(n, 1, 20) ? -1 : -2;
        }
        act();
        now.open[b] = now.day + n;
        List<Layer> layers = new ArrayList<>();
        now.bins.get(b).forEach(l -> layers.add(new Layer(l.grade, l.tons, now.day + n)));
        lieAgain(b, layers);
        return now.day + n;
    }

    int days(int n) {
        if (no(n, 1, 99) || now.day + n > 9999) {
            return -1;
        }
        act();
        return now.day += n;
    }

    int price(int g, int w) {
        if (no(g, 0, 5) || no(w, 0, 999)) {
            return -1;
        }
        act();
        int was = now.worth[g];
        now.worth[g] = w;
        return was;
    }

    int sells() {
        List<int[]> orders = orders();
        if (orders == null) {
            return ordersFault;
        }
        List<Integer> bins = serveBest(orders);
        act();
        int ahead = all(now, now.day);
        int sum = 0;
        for (int i = 0; i < bins.size(); i++) {
            sum += drawOut(bins.get(i), orders.get(i)[1]);
        }
        tell(sum, ahead, all(now, now.day));
        return bins.size();
    }

    int value(int b) {
        if (no(b, 0, 5)) {
            return -1;
        }
        int whole = now.bins.get(b).stream().mapToInt(l -> l.tons * now.worth[l.grade]).sum();
        tell(raw(now, b, now.day), mixed(now, b), whole);
        return value(now, b, now.day);
    }

    int all() {
        row = new ArrayList<>();
        for (int b = 0; b < 6; b++) {
            row.add(value(now, b, now.day));
        }
        return all(now, now.day);
    }

    int mixed(int g) {
        if (no(g, 0, 5)) {
            return -1;
        }
        tell(0, 0, 0, 0, 0, 0);
        for (int o = 0; o < 6; o++) {
            for (int b = 0; b < 6 && o != g; b++) {
                row.set(o, row.get(o) + mixed(now, b, g, o));
            }
        }
        return row.stream().mapToInt(i -> i).sum();
    }

    int would(int g, int t, int b) {
        if (no(g, 0, 5) || no(t, 1, 99) || no(b, 0, 5)) {
            return -1;
        }
        Layer l = new Layer(g, t, now.day);
        if (why(now, b, l) < 0) {
            return -1000000 + why(now, b, l);
        }
        All then = now.copy();
        put(then.bins.get(b), l);
        tell(value(then, b, now.day), mixed(then, b));
        return value(then, b, now.day) - value(now, b, now.day);
    }

    int worst() {
        int answer = -2;
        int most = 0;
        for (int b = 0; b < 6; b++) {
            for (int two = 1; two < 56; two++) {
                int lesser = two / 10;
                int other = two % 10;
                if (lesser < other && other < 6 && mixed(now, b, lesser, other) > most) {
                    most = mixed(now, b, lesser, other);
                    answer = two;
                    tell(most, b);
                }
            }
        }
        return answer;
    }

    int dear() {
        List<Integer> worth = new ArrayList<>();
        for (int g = 0; g < 6; g++) {
            int sum = 0;
            for (List<Layer> bin : now.bins) {
                for (Layer l : bin) {
                    sum += l.grade == g ? l.tons * unit(now, l, now.day) : 0;
                }
            }
            worth.add(sum);
        }
        int most = Collections.max(worth);
        if (most == 0) {
            return -2;
        }
        row = worth;
        return worth.indexOf(most);
    }

    int best(int g, int t) {
        if (no(g, 0, 5) || no(t, 1, 99)) {
            return -1;
        }
        int answer = -2;
        int most = Integer.MIN_VALUE;
        for (int b = 0; b < 6; b++) {
            Layer l = new Layer(g, t, now.day);
            All then = now.copy();
            put(then.bins.get(b), l);
            int more = all(then, now.day) - all(now, now.day);
            if (why(now, b, l) == 0 && more > most) {
                answer = b;
                most = more;
            }
        }
        if (answer >= 0) {
            tell(most);
        }
        return answer;
    }

    private List<List<Integer>> ways;
    private List<All> ends;

    /** All ways to lay these whole in bins but the one that is skipped, the first rows first. */
    private void layAll(All s, List<Layer> loads, List<Integer> way, int skip) {
        if (way.size() == loads.size()) {
            ways.add(way);
            ends.add(s);
            return;
        }
        Layer l = loads.get(way.size());
        for (int b = 0; b < 6; b++) {
            if (b != skip && why(s, b, l) == 0) {
                All then = s.copy();
                put(then.bins.get(b), l);
                List<Integer> more = new ArrayList<>(way);
                more.add(b);
                layAll(then, loads, more, skip);
            }
        }
    }

    private void layAll(List<Layer> loads, int skip) {
        ways = new ArrayList<>();
        ends = new ArrayList<>();
        layAll(now, loads, List.of(), skip);
    }

    private List<Layer> loads(List<int[]> orders) {
        List<Layer> loads = new ArrayList<>();
        orders.forEach(o -> loads.add(new Layer(o[0], o[1], now.day)));
        return loads;
    }

    int lays() {
        List<int[]> orders = orders();
        if (orders == null) {
            return ordersFault;
        }
        layAll(loads(orders), -1);
        int best = -1;
        for (int i = 0; i < ways.size(); i++) {
            if (best < 0 || all(ends.get(i), now.day) > all(ends.get(best), now.day)) {
                best = i;
            }
        }
        if (best < 0) {
            return -2;
        }
        tell(all(ends.get(best), now.day) - all(now, now.day));
        row.addAll(ways.get(best));
        return orders.size();
    }

    int few() {
        List<int[]> orders = orders();
        if (orders == null) {
            return ordersFault;
        }
        layAll(loads(orders), -1);
        int best = -1;
        for (List<Integer> way : ways) {
            int bits = 0;
            for (int b : way) {
                bits |= 1 << b;
            }
            int more = best < 0 ? -1 : Integer.bitCount(bits) - Integer.bitCount(best);
            if (more < 0 || more == 0 && bits < best) {
                best = bits;
            }
        }
        if (best < 0) {
            return -2;
        }
        tell(best);
        return Integer.bitCount(best);
    }

    int room(int g) {
        if (no(g, 0, 5)) {
            return -1;
        }
        for (int t = 99; t > 0; t--) {
            for (int b = 0; b < 6; b++) {
                if (why(now, b, new Layer(g, t, now.day)) == 0) {
                    tell(b);
                    return t;
                }
            }
        }
        tell(-1);
        return 0;
    }

    int takers(int t) {
        if (no(t, 1, 99)) {
            return -1;
        }
        int bits = 0;
        tell(0, 0, 0, 0, 0, 0);
        for (int b = 0; b < 6; b++) {
            for (int g = 0; g < 6; g++) {
                if (why(now, b, new Layer(g, t, now.day)) == 0) {
                    bits |= 1 << b;
                    row.set(g, row.get(g) + 1);
                }
            }
        }
        return bits;
    }

    int bottom(int b) {
        if (no(b, 0, 5) || now.bins.get(b).isEmpty()) {
            return no(b, 0, 5) ? -1 : -2;
        }
        int g = now.bins.get(b).get(0).grade;
        tell(0, 0);
        for (Layer l : now.bins.get(b)) {
            if (l.grade != g) {
                break;
            }
            tell(row.get(0) + l.tons, row.get(1) + 1);
        }
        return g;
    }

    /** The lowest tons are all of this grade. */
    private static boolean lowestIs(List<Layer> bin, int g, int t) {
        List<Layer> got = lowest(bin, t);
        return got.stream().mapToInt(Layer::tons).sum() == t && got.stream().allMatch(l -> l.grade == g);
    }

    int reaches(int g, int t) {
        if (no(g, 0, 5) || no(t, 1, 99)) {
            return -1;
        }
        for (int ahead = 0; ahead <= 99; ahead++) {
            for (int b = 0; b < 6; b++) {
                if (!closed(now, b) && tons(now, b) >= ahead) {
                    List<Layer> left = new ArrayList<>(now.bins.get(b));
                    takeLowest(left, ahead);
                    if (lowestIs(left, g, t)) {
                        tell(b);
                        return ahead;
                    }
                }
            }
        }
        return -2;
    }

    private List<Integer> served;

    private void serveAll(All s, List<int[]> orders, List<Integer> way) {
        if (way.size() > served.size()) {
            served = way;
        }
        if (way.size() == orders.size()) {
            return;
        }
        int[] o = orders.get(way.size());
        for (int b = 0; b < 6; b++) {
            if (!closed(s, b) && lowestIs(s.bins.get(b), o[0], o[1])) {
                All then = s.copy();
                takeLowest(then.bins.get(b), o[1]);
                List<Integer> more = new ArrayList<>(way);
                more.add(b);
                serveAll(then, orders, more);
            }
        }
    }

    private List<Integer> serveBest(List<int[]> orders) {
        served = List.of();
        serveAll(now, orders, List.of());
        return served;
    }

    int serves() {
        List<int[]> orders = orders();
        if (orders == null) {
            return ordersFault;
        }
        row = new ArrayList<>(serveBest(orders));
        return row.size();
    }

    private List<Integer> picked;

    private static long drawn(List<Integer> way) {
        return way.stream().filter(b -> b < 6).count();
    }

    private void pickAll(All s, List<int[]> orders, List<Integer> way) {
        if (way.size() == orders.size()) {
            if (picked == null || drawn(way) > drawn(picked)) {
                picked = way;
            }
            return;
        }
        int[] o = orders.get(way.size());
        for (int b = 0; b <= 6; b++) {
            if (b == 6 || !closed(s, b) && lowestIs(s.bins.get(b), o[0], o[1])) {
                All then = s.copy();
                if (b < 6) {
                    takeLowest(then.bins.get(b), o[1]);
                }
                List<Integer> more = new ArrayList<>(way);
                more.add(b);
                pickAll(then, orders, more);
            }
        }
    }

    int picks() {
        List<int[]> orders = orders();
        if (orders == null) {
            return ordersFault;
        }
        picked = null;
        pickAll(now, orders, List.of());
        row = new ArrayList<>(picked);
        return (int) drawn(picked);
    }

    int empties(int b) {
        if (no(b, 0, 5) || closed(now, b)) {
            return no(b, 0, 5) ? -1 : -2;
        }
        layAll(now.bins.get(b), b);
        int best = -1;
        int least = 0;
        for (int i = 0; i < ways.size(); i++) {
            int grown = 0;
            for (int k = 0; k < 6; k++) {
                grown += mixed(ends.get(i), k) - mixed(now, k);
            }
            if (best < 0 || grown < least) {
                best = i;
                least = grown;
            }
        }
        if (best < 0) {
            return -3;
        }
        row = new ArrayList<>(ways.get(best));
        return least;
    }

    int then(int d) {
        if (no(d, 0, 999)) {
            return -1;
        }
        int bits = 0;
        for (List<Layer> bin : now.bins) {
            for (Layer l : bin) {
                bits |= unit(now, l, now.day + d) < now.worth[l.grade] ? 1 << l.grade : 0;
            }
        }
        tell(all(now, now.day) - all(now, now.day + d), bits);
        return all(now, now.day + d);
    }

    int falls(int b, int v) {
        if (no(b, 0, 5)) {
            return -1;
        }
        for (int d = 0; d <= 999; d++) {
            if (value(now, b, now.day + d) < v) {
                return d;
            }
        }
        return -2;
    }

    int old() {
        tell(0, 0, 0, 0, 0, 0, 0);
        int sum = 0;
        for (int b = 0; b < 6; b++) {
            for (Layer l : now.bins.get(b)) {
                if (unit(now, l, now.day) < now.worth[l.grade]) {
                    row.set(b, row.get(b) + l.tons);
                    row.set(6, row.get(6) | 1 << b);
                    sum += l.tons;
                }
            }
        }
        return sum;
    }

    int cures(int n, int d) {
        if (no(n, 1, 20) || no(d, 0, 999)) {
            return -1;
        }
        All real = now;
        int answer = -2;
        int most = all(real, real.day + d);
        for (int b = 0; b < 6; b++) {
            if (!closed(real, b) && !real.bins.get(b).isEmpty()) {
                now = real.copy();
                now.open[b] = now.day + n;
                List<Layer> layers = new ArrayList<>();
                now.bins.get(b).forEach(l -> layers.add(new Layer(l.grade, l.tons, now.day + n)));
                lieAgain(b, layers);
                if (all(now, now.day + d) > most) {
                    most = all(now, now.day + d);
                    answer = b;
                }
            }
        }
        now = real;
        if (answer >= 0) {
            tell(most - all(now, now.day + d));
        }
        return answer;
    }

    int undo() {
        if (past.isEmpty()) {
            return -2;
        }
        now = past.pop();
        return past.size();
    }

    int keeps() {
        kept = now.copy();
        return now.day;
    }

    int back() {
        if (kept == null) {
            return -2;
        }
        act();
        now = kept.copy();
        return now.day;
    }

    String script() {
        List<String> parts = new ArrayList<>();
        for (int b = 0; b < 6; b++) {
            List<String> layers = new ArrayList<>();
            now.bins.get(b).forEach(l -> layers.add(l.grade + "x" + l.tons));
            if (!layers.isEmpty()) {
                parts.add(b + ":" + String.join(",", layers));
            }
        }
        return String.join(";", parts);
    }

    int written(int i) {
        String all = script();
        return i == -1 ? all.length() : no(i, 0, all.length() - 1) ? -1 : all.charAt(i);
    }

    int count(int what) {
        int tons = 0;
        int layers = 0;
        int shut = 0;
        int empty = 0;
        for (int b = 0; b < 6; b++) {
            tons += tons(now, b);
            layers += now.bins.get(b).size();
            shut |= closed(now, b) ? 1 << b : 0;
            empty |= now.bins.get(b).isEmpty() ? 1 << b : 0;
        }
        int[] all = {now.day, tons, layers, shut, empty, past.size(), now.drawn, row.size(), text.length()};
        return no(what, 0, 8) ? -1 : all[what];
    }
}
