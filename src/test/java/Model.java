import java.math.BigInteger;
import java.util.ArrayList;
import java.util.Arrays;
import java.util.Comparator;
import java.util.List;
import java.util.NoSuchElementException;
import java.util.TreeMap;
import java.util.regex.Matcher;
import java.util.regex.Pattern;

/**
 * The document once more, as plainly as can be: it copies whole states and tries all there is, where
 * the class reckons. Answers that it can't try in time are UNKNOWN.
 */
final class Model {
    static final long UNKNOWN = Long.MIN_VALUE;

    record Order(int given, int due, int v) {
    }

    static final class Now implements Cloneable {
        int now = 0;
        int lane = 4;
        int hits = 0;
        List<Order> under = new ArrayList<>();
        int[] food = {};
        int[] hungry = {};

        Now copy() {
            Now c = new Now();
            c.now = now;
            c.lane = lane;
            c.hits = hits;
            c.under = new ArrayList<>(under);
            c.food = food.clone();
            c.hungry = hungry.clone();
            return c;
        }
    }

    StringBuilder text = new StringBuilder();
    List<Long> row = new ArrayList<>();
    int length = 2;
    List<int[]> posts = new ArrayList<>();
    List<int[]> rocks = new ArrayList<>();
    int[] eats = {};
    String rule = "";
    Now s = new Now();
    List<Now> undos = new ArrayList<>();
    Now[] kept = new Now[3];
    TreeMap<Integer, Integer> seen = new TreeMap<>();

    private void tell(long... numbers) {
        row.clear();
        for (long n : numbers) {
            row.add(n);
        }
    }

    private void tellFraction(BigInteger a, BigInteger b) {
        BigInteger g = a.gcd(b);
        tell(a.divide(g).longValueExact(), b.divide(g).longValueExact());
    }

    // ---- texts

    private static final Pattern SHIP = Pattern.compile("[0-9]{1,2}(,[0-9]{1,2}[*]?){0,10}");
    private static final Pattern ROCKS = Pattern.compile("[0-9]{1,3},[0-8](;[0-9]{1,3},[0-8])*");
    private static final Pattern MESSES = Pattern.compile("[0-9]{1,2}[*][0-9](;[0-9]{1,2}[*][0-9])*");
    private static final Pattern VOYAGE = Pattern.compile("([<=>1-9]|p[0-9])*");
    private static final Pattern RULE = Pattern.compile(expression(4));

    private static String expression(int depth) {
        String thing = depth == 0 ? "([0-9]{1,3}|[lpxn])"
            : "([0-9]{1,3}|[lpxn]|[(]" + expression(depth - 1) + "[)])";
        String sum = "-*" + thing + "([-+*/]-*" + thing + ")*";
        return sum + "([<>=]" + sum + ")?";
    }

    private static boolean viable(Pattern p, String text) {
        Matcher m = p.matcher(text);
        return m.matches() || m.hitEnd();
    }

    /** The fault by the grammar alone; -1 for none. */
    private static int fault(Pattern p, String text, int limit) {
        int most = Math.min(limit, text.length());
        for (int i = 0; i < most; i++) {
            if (!viable(p, text.substring(0, i + 1))) {
                return i;
            }
        }
        if (text.length() > limit) {
            return limit;
        }
        return p.matcher(text).matches() ? -1 : text.length();
    }

    private static int sooner(int a, int b) {
        return a < 0 ? b : b < 0 ? a : Math.min(a, b);
    }

    private static int value(String s) {
        return s.isEmpty() ? -1 : Integer.parseInt(s);
    }

    private static boolean digit(char c) {
        return c >= '0' && c <= '9';
    }

    int sign(int v) {
        if (text.length() > 76) {
            return -1;
        }
        for (int i = 3; i >= 0; i--) {
            text.append((char) ((v >> 8 * i) & 0xff));
        }
        return text.length();
    }

    boolean end(int n) {
        if (n < 0 || n > text.length()) {
            return false;
        }
        text.setLength(n);
        return true;
    }

    private String take() {
        String t = text.toString();
        text.setLength(0);
        return t;
    }

    int ship() {
        String t = take();
        int fault = fault(SHIP, t, 43);
        String good = fault < 0 ? t : t.substring(0, fault);
        List<int[]> news = new ArrayList<>();
        int longs = 0;
        int at = 0;
        int worth = -1;
        int before = -1;
        for (String part : good.split(",", -1)) {
            String number = part.replace("*", "");
            int v = value(number);
            int last = at + number.length() - 1;
            boolean bad = at == 0 ? v < 2 || v > 40 : v <= before || v >= longs;
            if (!number.isEmpty() && bad && worth < 0) {
                worth = last;
            }
            if (at == 0) {
                longs = v;
            } else {
                news.add(new int[] {v, part.endsWith("*") ? 1 : 0});
                before = v;
            }
            at += part.length() + 1;
        }
        fault = sooner(worth, fault);
        if (fault >= 0) {
            return -1 - fault;
        }
        length = longs;
        posts = news;
        return posts.size();
    }

    /** Starts of LINES in a text as far as it is good. */
    private static int noRoom(String good, int room) {
        int lines = 0;
        for (int i = 0; i <= good.length(); i++) {
            if (i == 0 || good.charAt(i - 1) == ';') {
                lines++;
                if (lines > room) {
                    return i;
                }
            }
        }
        return -1;
    }

    int rocks() {
        String t = take();
        if (t.isEmpty()) {
            return 0;
        }
        int fault = fault(ROCKS, t, 76);
        String good = fault < 0 ? t : t.substring(0, fault);
        int worth = noRoom(good, 16 - rocks.size());
        int at = 0;
        for (String line : good.split(";", -1)) {
            String mile = line.split(",", -1)[0];
            int behind = at + mile.length();
            boolean goesOn = behind == 76 && t.length() > 76 && mile.length() < 3;
            if (value(mile) == 0 && !goesOn) {
                worth = sooner(worth, behind - 1);
            }
            at += line.length() + 1;
        }
        fault = sooner(worth, fault);
        if (fault >= 0) {
            return -1 - fault;
        }
        String[] lines = t.split(";");
        for (String line : lines) {
            String[] parts = line.split(",");
            rocks.add(new int[] {value(parts[0]), value(parts[1])});
        }
        return lines.length;
    }

    int messes() {
        String t = take();
        if (t.isEmpty()) {
            return 0;
        }
        int fault = fault(MESSES, t, 39);
        String good = fault < 0 ? t : t.substring(0, fault);
        fault = sooner(noRoom(good, 8 - eats.length), fault);
        if (fault >= 0) {
            return -1 - fault;
        }
        String[] lines = t.split(";");
        for (String line : lines) {
            String[] parts = line.split("[*]");
            int n = eats.length;
            s.food = Arrays.copyOf(s.food, n + 1);
            s.hungry = Arrays.copyOf(s.hungry, n + 1);
            eats = Arrays.copyOf(eats, n + 1);
            s.food[n] = value(parts[0]);
            eats[n] = value(parts[1]);
        }
        undos.clear();
        Arrays.fill(kept, null);
        return lines.length;
    }

    int rule() {
        String t = take();
        if (t.isEmpty()) {
            rule = "";
            return 0;
        }
        int fault = fault(RULE, t, 40);
        if (fault >= 0) {
            return -1 - fault;
        }
        rule = t;
        return 0;
    }

    int post(int p, int what) {
        return posts.stream().skip(check(p, posts.size())).findFirst().orElseThrow()[check(what, 2)];
    }

    int rock(int r, int what) {
        return rocks.stream().skip(check(r, rocks.size())).findFirst().orElseThrow()[check(what, 2)];
    }

    int mess(int m, int what) {
        check(m, eats.length);
        return new int[][] {s.food, eats, s.hungry}[check(what, 3)][m];
    }

    private static int check(int i, int size) {
        if (i < 0 || i >= size) {
            throw new NoSuchElementException();
        }
        return i;
    }

    private List<Order> byDue() {
        List<Order> all = new ArrayList<>(s.under);
        all.sort(Comparator.comparingInt(Order::due).thenComparingInt(Order::given));
        return all;
    }

    int way(int o, int what) {
        Order order = byDue().get(check(o, s.under.size()));
        return check(what, 2) == 0 ? order.due - s.now : order.v;
    }

    int sheet(int kind, int n, int f, int step) {
        if (kind < 0 || kind > 3 || n > 8) {
            return -1;
        }
        if (kind == 3) {
            Arrays.fill(eats, 0);
            return -3;
        }
        if (n < 0) {
            return -2;
        }
        Arrays.fill(eats, 0);
        int v = f;
        for (int i = 0; i < n && i < eats.length; i++) {
            int e = kind == 0 ? v << 24 >> 24 : kind == 1 ? v << 16 >> 16 : v;
            eats[i] = e < 0 ? 0 : e > 9 ? 9 : e;
            v += step;
        }
        return Arrays.stream(eats).sum();
    }

    // ---- steps

    private int liars() {
        return posts.stream().mapToInt(p -> p[1]).sum();
    }

    /** Works out a rule by climbing down into it. */
    private final class Reckoner {
        final String t;
        final int n;
        int at = 0;

        Reckoner(String t, int n) {
            this.t = t;
            this.n = n;
        }

        char next() {
            return at < t.length() ? t.charAt(at) : ' ';
        }

        int expression() {
            int a = sum();
            char c = next();
            if (c == '<' || c == '>' || c == '=') {
                at++;
                int b = sum();
                return (c == '<' ? a < b : c == '>' ? a > b : a == b) ? 1 : 0;
            }
            return a;
        }

        int sum() {
            int a = product();
            while (next() == '+' || next() == '-') {
                boolean plus = t.charAt(at++) == '+';
                int b = product();
                a = plus ? a + b : a - b;
            }
            return a;
        }

        int product() {
            int a = turned();
            while (next() == '*' || next() == '/') {
                boolean times = t.charAt(at++) == '*';
                int b = turned();
                a = times ? a * b : b == 0 ? 0 : a / b;
            }
            return a;
        }

        int turned() {
            if (next() == '-') {
                at++;
                return -turned();
            }
            return thing();
        }

        int thing() {
            char c = t.charAt(at++);
            switch (c) {
                case '(':
                    int v = expression();
                    at++;
                    return v;
                case 'l':
                    return length;
                case 'p':
                    return posts.size();
                case 'x':
                    return liars();
                case 'n':
                    return n;
                default:
                    int number = c - '0';
                    while (digit(next())) {
                        number = number * 10 + t.charAt(at++) - '0';
                    }
                    return number;
            }
        }
    }

    int delayAt(int step) {
        int d = new Reckoner(rule.isEmpty() ? "l/8+1" : rule, step % 12).expression();
        return Math.max(1, Math.min(12, d));
    }

    int delay() {
        return delayAt(s.now);
    }

    private void remember(Now before) {
        undos.add(before);
        if (undos.size() > 15) {
            undos.remove(0);
        }
    }

    private int giveOrder(int v) {
        for (Order o : s.under) {
            if (o.given == s.now) {
                return -2;
            }
        }
        if (s.under.size() == 12) {
            return -3;
        }
        int d = delay();
        s.under.add(new Order(s.now, s.now + d, liars() % 2 == 0 ? v : -v));
        return d;
    }

    int order(int v) {
        if (v < -1 || v > 1) {
            return -1;
        }
        Now before = s.copy();
        int d = giveOrder(v);
        if (d > 0) {
            remember(before);
        }
        return d;
    }

    private int passFood(int m, int n, int aft) {
        int to = aft == 1 ? m + 1 : m - 1;
        if (m < 0 || m >= eats.length || aft < 0 || aft > 1 || to < 0 || to >= eats.length
            || n < 1 || n > 99) {
            return -1;
        }
        if (s.food[m] < n) {
            return -2;
        }
        if (s.food[to] + n > 99) {
            return -3;
        }
        s.food[m] -= n;
        s.food[to] += n;
        return s.food[m];
    }

    int pass(int m, int n, int aft) {
        Now before = s.copy();
        int d = passFood(m, n, aft);
        if (d >= 0) {
            remember(before);
        }
        return d;
    }

    int cook(int m, int n) {
        if (m < 0 || m >= eats.length || n < 0 || n > 99) {
            return -1;
        }
        remember(s.copy());
        int had = s.food[m];
        s.food[m] = n;
        return had;
    }

    private static int sea(int lane) {
        return lane < 0 ? 0 : lane > 8 ? 8 : lane;
    }

    /** One step of some state. */
    private int go(Now x) {
        x.now++;
        for (Order o : List.copyOf(x.under)) {
            if (o.due == x.now) {
                x.lane = sea(x.lane + o.v);
                x.under.remove(o);
            }
        }
        for (int[] r : rocks) {
            if (r[0] == x.now && r[1] == x.lane) {
                x.hits++;
            }
        }
        int hungry = 0;
        for (int i = 0; i < eats.length; i++) {
            x.food[i] -= eats[i];
            if (x.food[i] < 0) {
                x.food[i] = 0;
                x.hungry[i]++;
                hungry++;
            }
        }
        return hungry;
    }

    int steps(int n) {
        if (n < 0 || n > 60) {
            return -1;
        }
        Now before = s.copy();
        remember(before);
        int hungry = 0;
        for (int i = 0; i < n; i++) {
            hungry += go(s);
        }
        tell(s.hits - before.hits, hungry);
        return s.lane;
    }

    int voyage() {
        String t = take();
        int fault = fault(VOYAGE, t, 60);
        if (fault >= 0) {
            return -1 - fault;
        }
        Now before = s.copy();
        int done = 0;
        boolean refused = false;
        for (int i = 0; i < t.length() && !refused; i++) {
            char c = t.charAt(i);
            if (c == 'p') {
                i++;
                refused = passFood(t.charAt(i) - '0', 1, 1) < 0;
            } else if (digit(c)) {
                for (int k = 0; k < c - '0'; k++) {
                    go(s);
                }
            } else {
                refused = giveOrder("<=>".indexOf(c) - 1) < 0;
            }
            if (!refused) {
                done++;
            }
        }
        if (done > 0) {
            remember(before);
        }
        tell(refused ? 1 : 0, s.hits - before.hits);
        return done;
    }

    int undo() {
        if (undos.isEmpty()) {
            return -1;
        }
        s = undos.remove(undos.size() - 1);
        return undos.size();
    }

    // ---- where she will be

    int lane(int n) {
        if (n < 0 || n > 60) {
            return -1;
        }
        Now x = s.copy();
        for (int i = 0; i < n; i++) {
            go(x);
        }
        tell(x.hits - s.hits);
        return x.lane;
    }

    int strikes() {
        Now x = s.copy();
        for (int i = 1; i <= 999; i++) {
            go(x);
            if (x.hits > s.hits) {
                for (int r = 0; r < rocks.size(); r++) {
                    if (rocks.get(r)[0] == x.now && rocks.get(r)[1] == x.lane) {
                        tell(r);
                        return i;
                    }
                }
            }
        }
        return -2;
    }

    private boolean gaveNow() {
        return s.under.stream().anyMatch(o -> o.given == s.now);
    }

    /** LANES in each STEP when the row is given from now on (2 of a row: left out); null if given now already. */
    private int[] sail(int[] orders, int n) {
        if (orders.length > 0 && orders[0] != 0 && gaveNow()) {
            return null;
        }
        List<Order> all = new ArrayList<>(s.under);
        for (int i = 0; i < orders.length; i++) {
            int v = liars() % 2 == 0 ? orders[i] : -orders[i];
            all.add(new Order(s.now + i, s.now + i + delayAt(s.now + i), v));
        }
        int[] lanes = new int[n + 1];
        lanes[0] = s.lane;
        for (int t = 1; t <= n; t++) {
            int lane = lanes[t - 1];
            for (Order o : all) {
                if (o.due == s.now + t) {
                    lane = sea(lane + o.v);
                }
            }
            lanes[t] = lane;
        }
        return lanes;
    }

    private boolean unhurt(int[] lanes) {
        for (int[] r : rocks) {
            int t = r[0] - s.now;
            if (t >= 1 && t < lanes.length && lanes[t] == r[1]) {
                return false;
            }
        }
        return true;
    }

    /** All rows of n orders, the least first. */
    private static List<int[]> rowsOf(int n) {
        List<int[]> all = new ArrayList<>();
        int many = (int) Math.pow(3, n);
        for (int i = 0; i < many; i++) {
            int[] row = new int[n];
            int rest = i;
            for (int k = n - 1; k >= 0; k--) {
                row[k] = rest % 3 - 1;
                rest /= 3;
            }
            all.add(row);
        }
        return all;
    }

    static final int TRIED = 7;

    long clears() {
        int can = 0;
        int cannot = 0;
        int far = rocks.stream().mapToInt(r -> r[0] - s.now).max().orElse(0);
        int[] reach = new int[Math.max(far, 0) + 1];
        reach[0] = 1 << s.lane;
        int[] delays = new int[12];
        for (int i = 0; i < 12; i++) {
            delays[i] = delayAt(i);
        }
        for (int t = 1; t <= far; t++) {
            boolean[] in = new boolean[9];
            for (int i = 0; i < 9; i++) {
                in[i] = (reach[t - 1] >> i & 1) == 1;
            }
            for (Order o : byDue()) {
                if (o.due == s.now + t) {
                    boolean[] then = new boolean[9];
                    for (int i = 0; i < 9; i++) {
                        then[sea(i + o.v)] |= in[i];
                    }
                    in = then;
                }
            }
            for (int g = gaveNow() ? 1 : 0; g < t; g++) {
                if (g + delays[(s.now + g) % 12] == t) {
                    boolean[] then = in.clone();
                    for (int i = 0; i < 9; i++) {
                        then[sea(i + 1)] |= in[i];
                        then[sea(i - 1)] |= in[i];
                    }
                    in = then;
                }
            }
            for (int i = 0; i < 9; i++) {
                reach[t] |= in[i] ? 1 << i : 0;
            }
        }
        for (int r = 0; r < rocks.size(); r++) {
            int t = rocks.get(r)[0] - s.now;
            if (t < 1) {
                continue;
            }
            boolean clear = (reach[t] & ~(1 << rocks.get(r)[1])) != 0;
            if (t <= TRIED) {
                clear = false;
                for (int[] orders : rowsOf(t)) {
                    int[] lanes = sail(orders, t);
                    clear |= lanes != null && lanes[t] != rocks.get(r)[1];
                }
            }
            if (clear) {
                can |= 1 << r;
            } else {
                cannot |= 1 << r;
            }
        }
        tell(cannot);
        return can;
    }

    private static int count(int[] orders) {
        return (int) Arrays.stream(orders).filter(v -> v != 0).count();
    }

    /** Rows of n with just k orders but 0, tried with the least first: the first that clears all. */
    private boolean tryRows(int[] orders, int at, int k) {
        if (at == orders.length) {
            int[] lanes = k == 0 ? sail(orders, orders.length) : null;
            return lanes != null && unhurt(lanes);
        }
        if (k > orders.length - at) {
            return false;
        }
        for (int v = -1; v <= 1; v++) {
            if (v != 0 && k == 0) {
                continue;
            }
            orders[at] = v;
            if (tryRows(orders, at + 1, v == 0 ? k : k - 1)) {
                return true;
            }
        }
        orders[at] = 0;
        return false;
    }

    long plan(int n) {
        if (n < 1 || n > 30) {
            return -1;
        }
        int most = n <= TRIED ? n : n <= 14 ? 4 : 2;
        for (int k = 0; k <= most; k++) {
            int[] orders = new int[n];
            if (tryRows(orders, 0, k)) {
                row.clear();
                for (int v : orders) {
                    row.add((long) v);
                }
                return k;
            }
        }
        return n <= TRIED ? -2 : UNKNOWN;
    }

    long latest(int n) {
        if (n < 1 || n > 30) {
            return -1;
        }
        if (n > TRIED) {
            return UNKNOWN;
        }
        int best = -2;
        for (int[] orders : rowsOf(n)) {
            int[] lanes = sail(orders, n);
            if (lanes != null && unhurt(lanes)) {
                int first = 0;
                while (first < n - 1 && orders[first] == 0) {
                    first++;
                }
                best = Math.max(best, first);
            }
        }
        return best;
    }

    long lanes(int n) {
        if (n < 0 || n > 30) {
            return -1;
        }
        if (n > TRIED) {
            return UNKNOWN;
        }
        int set = 0;
        for (int[] orders : rowsOf(n)) {
            int[] lanes = sail(orders, n);
            if (lanes != null && unhurt(lanes)) {
                set |= 1 << lanes[n];
            }
        }
        tell(Integer.bitCount(set));
        return set;
    }

    int safest(int n) {
        if (n < 1 || n > 999) {
            return -1;
        }
        int[] many = new int[9];
        for (int[] r : rocks) {
            if (r[0] > s.now && r[0] <= s.now + n) {
                many[r[1]]++;
            }
        }
        List<Integer> all = new ArrayList<>(List.of(0, 1, 2, 3, 4, 5, 6, 7, 8));
        all.sort(Comparator.<Integer>comparingInt(i -> many[i])
            .thenComparingInt(i -> Math.abs(i - s.lane)).thenComparingInt(i -> i));
        tell(many[all.get(0)], many[s.lane]);
        return all.get(0);
    }

    int late(int n) {
        if (n < 1 || n > 30) {
            return -1;
        }
        row.clear();
        int many = 0;
        for (int i = 0; i < n; i++) {
            row.add((long) i + delayAt(s.now + i));
        }
        for (int i = 0; i < n; i++) {
            long mine = row.get(i);
            many += row.subList(i, n).stream().anyMatch(d -> d < mine) ? 1 : 0;
        }
        return many;
    }

    int comes(int n) {
        if (n < 0 || n > 12) {
            return -1;
        }
        int cell = n >= delay() ? length - 1 : (length - 1) * n / delay();
        List<int[]> by = posts.stream().filter(p -> p[0] <= cell).toList();
        tell(by.size(), by.stream().mapToInt(p -> p[1]).sum() % 2);
        return cell;
    }

    // ---- posts

    long relay(int k) {
        if (k < 0 || k > 10) {
            return -1;
        }
        if (k > length - 2) {
            return -2;
        }
        if (length > 14 && k > 4) {
            return UNKNOWN;
        }
        int[] best = new int[k];
        int gap = relay(new int[k], 0, 100, best);
        row.clear();
        for (int c : best) {
            row.add((long) c);
        }
        return gap;
    }

    private int relay(int[] cells, int at, int least, int[] best) {
        int from = at == 0 ? 0 : cells[at - 1];
        if (at == cells.length) {
            int gap = length - 1 - from;
            for (int i = 0; i < cells.length; i++) {
                gap = Math.max(gap, cells[i] - (i == 0 ? 0 : cells[i - 1]));
            }
            if (gap < least) {
                System.arraycopy(cells, 0, best, 0, cells.length);
                return gap;
            }
            return least;
        }
        int found = least;
        for (int c = from + 1; c <= length - 2; c++) {
            cells[at] = c;
            found = relay(cells, at + 1, found, best);
        }
        return found;
    }

    int fewest(int v) {
        if (v < 1 || v > 39) {
            return -1;
        }
        int posts = 0;
        for (int cell = v; cell < length - 1; cell += v) {
            posts++;
        }
        return posts;
    }

    /** How many of 10 to the k come as they were. */
    private BigInteger likely(int k, int p) {
        BigInteger[] as = new BigInteger[k + 1];
        Arrays.fill(as, BigInteger.ZERO);
        as[0] = BigInteger.ONE;
        for (int i = 0; i < k; i++) {
            for (int j = i + 1; j >= 0; j--) {
                BigInteger stays = as[j].multiply(BigInteger.valueOf(p));
                as[j] = j == 0 ? stays
                    : stays.add(as[j - 1].multiply(BigInteger.valueOf(10 - p)));
            }
        }
        BigInteger sum = BigInteger.ZERO;
        for (int j = 0; j <= k; j++) {
            sum = 2 * j > k ? sum.add(as[j]) : sum;
        }
        return sum;
    }

    int word(int k, int p) {
        if (k < 1 || k > 15 || k % 2 == 0 || p < 0 || p > 10) {
            return -1;
        }
        tellFraction(likely(k, p), BigInteger.TEN.pow(k));
        return 0;
    }

    int survives(int p, int v) {
        if (p < 0 || p > 10 || v < 0 || v > 100) {
            return -1;
        }
        for (int k = 1; k < 16; k += 2) {
            if (likely(k, p).multiply(BigInteger.valueOf(100))
                .compareTo(BigInteger.TEN.pow(k).multiply(BigInteger.valueOf(v))) >= 0) {
                return k;
            }
        }
        return -2;
    }

    // ---- food

    /** Whether each MESS can have what it EATS in n STEPS. */
    private boolean enough(int how, int n) {
        int m = eats.length;
        long[] has = new long[m];
        for (int i = 0; i < m; i++) {
            has[i] = s.food[i] - (long) eats[i] * n;
        }
        if (how == 3) {
            return Arrays.stream(has).sum() >= 0;
        }
        for (int i = 0; i < m; i++) {
            int at = how == 2 ? m - 1 - i : i;
            if (has[at] < 0) {
                return false;
            }
            if (how == 1 && at + 1 < m) {
                has[at + 1] += has[at];
            }
            if (how == 2 && at > 0) {
                has[at - 1] += has[at];
            }
        }
        return true;
    }

    int lives(int how) {
        if (how < 0 || how > 3 || eats.length == 0) {
            return -1;
        }
        if (Arrays.stream(eats).sum() == 0) {
            tell(-1);
            return 99999;
        }
        int n = 0;
        while (enough(how, n + 1)) {
            n++;
        }
        int which = 0;
        if (how < 3) {
            for (which = 0; which < eats.length; which++) {
                int food = 0;
                int need = 0;
                for (int i = 0; i < eats.length; i++) {
                    if (how == 0 && i == which || how == 1 && i <= which || how == 2 && i >= which) {
                        food += s.food[i];
                        need += eats[i];
                    }
                }
                if (need > 0 && food / need == n) {
                    break;
                }
            }
        }
        tell(which);
        return n;
    }

    int shares(int n) {
        if (n < 0 || n > 99 || eats.length == 0) {
            return -1;
        }
        int m = eats.length;
        int far = Arrays.stream(s.food).sum();
        int[] more = new int[m];
        for (int i = 0; i < m; i++) {
            more[i] = s.food[i] - eats[i] * n;
        }
        if (Arrays.stream(more).sum() < 0) {
            return -2;
        }
        int big = 1000000;
        // least[i][x + far]: by what goes from i to i + 1, the least from there on
        int[][] least = new int[m][2 * far + 1];
        for (int i = m - 1; i >= 0; i--) {
            // best[y]: least over all that go on and are y at most
            for (int x = -far; x <= far; x++) {
                int cost = Math.abs(x);
                if (i == m - 1) {
                    cost = x == 0 ? 0 : big;
                } else {
                    cost = Math.min(big, cost + upTo(least[i + 1], x + more[i + 1], far, big));
                }
                least[i][x + far] = cost;
            }
        }
        row.clear();
        int total = upTo(least[0], more[0], far, big);
        int came = 0;
        int rest = total;
        for (int i = 0; i < m - 1; i++) {
            for (int x = -far; x <= far; x++) {
                if (x <= came + more[i] && least[i][x + far] == rest) {
                    row.add((long) x);
                    came = x;
                    rest -= Math.abs(x);
                    break;
                }
            }
        }
        return total;
    }

    private static int upTo(int[] costs, int most, int far, int big) {
        int best = big;
        for (int x = -far; x <= Math.min(far, most); x++) {
            best = Math.min(best, costs[x + far]);
        }
        return best;
    }

    int fast(int n) {
        if (n < 0 || n > 99 || eats.length == 0) {
            return -1;
        }
        for (int size = 0; size <= eats.length; size++) {
            for (int set = 0; set < 1 << eats.length; set++) {
                int rest = Arrays.stream(s.food).sum();
                for (int i = 0; i < eats.length; i++) {
                    rest -= (set >> i & 1) == 0 ? eats[i] * n : 0;
                }
                if (Integer.bitCount(set) == size && rest >= 0) {
                    tell(size, rest);
                    return set;
                }
            }
        }
        throw new IllegalStateException();
    }

    // ---- what was ordered

    int seen(int k, int lane) {
        if (k < 0 || k > 24 || lane < 0 || lane > 8) {
            return -1;
        }
        if (seen.containsKey(k)) {
            return seen.get(k) == lane ? seen.size() : -2;
        }
        if (seen.size() == 12) {
            return -1;
        }
        seen.put(k, lane);
        return seen.size();
    }

    int forget() {
        int n = seen.size();
        seen.clear();
        return n;
    }

    /** All rows that are as was seen, the least first. */
    private List<int[]> rowsSeen() {
        List<int[]> all = new ArrayList<>();
        for (int[] orders : rowsOf(seen.lastKey())) {
            int lane = 4;
            boolean as = seen.getOrDefault(0, 4) == 4;
            for (int t = 1; t <= orders.length; t++) {
                lane = sea(lane + orders[t - 1]);
                as &= seen.getOrDefault(t, lane) == lane;
            }
            if (as) {
                all.add(orders);
            }
        }
        return all;
    }

    static final int LONG_ROWS = 8;

    long ordered() {
        if (seen.isEmpty()) {
            return -1;
        }
        if (seen.lastKey() > LONG_ROWS) {
            return UNKNOWN;
        }
        List<int[]> all = rowsSeen();
        row.clear();
        if (!all.isEmpty()) {
            for (int v : all.get(0)) {
                row.add((long) v);
            }
        }
        return Math.min(1000000, all.size());
    }

    long unsure() {
        if (seen.isEmpty()) {
            return -2;
        }
        if (seen.lastKey() > LONG_ROWS) {
            return UNKNOWN;
        }
        List<int[]> all = rowsSeen();
        if (all.isEmpty()) {
            return -2;
        }
        int[] lanes = new int[seen.lastKey() + 1];
        lanes[0] = 16;
        for (int[] orders : all) {
            int lane = 4;
            for (int t = 1; t <= orders.length; t++) {
                lane = sea(lane + orders[t - 1]);
                lanes[t] |= 1 << lane;
            }
        }
        int best = 0;
        for (int t = 0; t < lanes.length; t++) {
            best = Integer.bitCount(lanes[t]) > Integer.bitCount(lanes[best]) ? t : best;
        }
        tell(lanes[best]);
        return best;
    }

    // ---- the boy, lookouts, mutinies

    /** Where one is and whither he goes, who walks from a CELL on and rests by r. */
    private int[] walk(int cell, int n, int r) {
        int at = cell;
        int to = cell == 0 ? 1 : -1;
        for (int t = 1; t <= n; t++) {
            if (t % r != 0) {
                at += to;
                to = at == 0 ? 1 : at == length - 1 ? -1 : to;
            }
        }
        return new int[] {at, to};
    }

    int boy(int n, int r) {
        if (n < 0 || n > 99999 || r < 2 || r > 9) {
            return -1;
        }
        int[] boy = walk(0, n, r);
        tell(boy[1]);
        return boy[0];
    }

    int meets(int r) {
        if (r < 2 || r > 9) {
            return -1;
        }
        for (int t = 1; t <= 999; t++) {
            int cell = walk(0, t, r)[0];
            if (cell == walk(length - 1, t, 5000)[0]) {
                tell(cell);
                return t;
            }
        }
        return -2;
    }

    int knows(int n, int p) {
        if (n < 0 || n > 12 || p < 0 || p > 10) {
            return -1;
        }
        tellFraction(BigInteger.valueOf(10 - p).pow(n).multiply(BigInteger.valueOf(p)),
            BigInteger.TEN.pow(n + 1));
        return 0;
    }

    int mutiny(int a, int b, int v) {
        if (a < 1 || a > 20 || b < 1 || b > 20 || v < 1 || v > 18) {
            return -1;
        }
        int xs = Math.min(9, a) + 1;
        int ys = Math.min(9, b) + 1;
        int[][] first = new int[xs][ys];
        int[][] second = new int[xs][ys];
        for (int x = 0; x < xs; x++) {
            for (int y = 0; y < ys; y++) {
                first[x][y] = x + y < v ? a / 2 : a - x;
                second[x][y] = x + y < v ? b / 2 : b - y;
            }
        }
        List<int[]> calm = new ArrayList<>();
        for (int x = 0; x < xs; x++) {
            for (int y = 0; y < ys; y++) {
                int most = 0;
                for (int[] other : first) {
                    most = Math.max(most, other[y]);
                }
                if (first[x][y] == most
                    && second[x][y] == Arrays.stream(second[x]).max().orElse(0)) {
                    calm.add(new int[] {x, y});
                }
            }
        }
        row.clear();
        if (!calm.isEmpty()) {
            tell(calm.get(0)[0], calm.get(0)[1]);
        }
        return calm.size();
    }

    // ---- chances, voyages

    int chance(int n, int p, int sees) {
        if (n < 1 || n > 12 || p < 0 || p > 10 || sees < 0 || sees > 12) {
            return -1;
        }
        if (sees >= delay()) {
            tell(1, 1);
        } else {
            tellFraction(BigInteger.valueOf(10 - p).pow(n), BigInteger.TEN.pow(n));
        }
        return 0;
    }

    int voyages(int seed, int n) {
        if (n < 1 || n > 60) {
            return -1;
        }
        Now before = s;
        s = before.copy();
        int r = seed;
        int given = 0;
        for (int i = 0; i < n; i++) {
            r = r * 1103515245 + 12345;
            long draw = (r & 0xffffffffL) / 65536 % 4;
            if (draw < 2) {
                given += giveOrder(draw == 0 ? -1 : 1) > 0 ? 1 : 0;
            }
            go(s);
        }
        int hits = s.hits - before.hits;
        tell(s.lane, given);
        s = before;
        return hits;
    }

    // ---- kept

    boolean keep(int i) {
        if (i < 0 || i > 2) {
            return false;
        }
        kept[i] = s.copy();
        return true;
    }

    boolean again(int i) {
        if (i < 0 || i > 2 || kept[i] == null) {
            return false;
        }
        s = kept[i].copy();
        undos.clear();
        return true;
    }

    int count(int what) {
        int[] all = {length, posts.size(), liars(), rocks.size(), eats.length, s.now, s.lane, s.hits,
            s.under.size(), seen.size(), undos.size(), row.size(), text.length()};
        return what < 0 || what > 12 ? -100 : all[what];
    }

    long row(int i) {
        return row.get(check(i, row.size()));
    }
}
