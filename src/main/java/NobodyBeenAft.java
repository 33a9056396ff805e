import java.util.Arrays;
import java.util.NoSuchElementException;

/**
 * A ship so long that what is ordered forward comes late to the helm. The calls are those of the
 * document, in its order; what they keep stands in the classes at the end of the file.
 */
public final class NobodyBeenAft {
    public static final int NONE = -1;

    private static final int MAX_SIGNS = 80;
    private static final int SHIP_SIGNS = 43;
    private static final int ROCK_SIGNS = 76;
    private static final int MESS_SIGNS = 39;
    private static final int RULE_SIGNS = 40;
    private static final int VOYAGE_SIGNS = 60;
    private static final int MAX_LONG = 40;
    private static final int MAX_POSTS = 10;
    private static final int MAX_ROCKS = 16;
    private static final int MAX_MESSES = 8;
    private static final int MAX_FOOD = 99;
    private static final int MAX_EATS = 9;
    private static final int MAX_ORDERS = 12;
    private static final int MAX_DELAY = 12;
    private static final int RESTS = 12;
    private static final int LAST_LANE = 8;
    private static final int ALL_LANES = 511;
    private static final int MAX_MILE = 999;
    private static final int MAX_STEPS = 60;
    private static final int HORIZON = 30;
    private static final int FREE = 2;
    private static final int TOO_MANY = 1000;
    private static final int TOO_MUCH = 1000000;
    private static final int MAX_UNDO = 15;
    private static final int KEPT = 3;
    private static final int MAX_SEEN = 12;
    private static final int LAST_SEEN = 24;
    private static final int MOST_ROWS = 1000000;
    private static final int LONGEST = 99999;
    private static final int MOST_WORDS = 12;
    private static final int MOST_POST_ROWS = 15;
    private static final int MAX_BID = 9;
    private static final int NO_FAULT = -1;

    private final Text text;
    private final Row told;
    private Ship ship;
    private Ship otherShip;
    private Rule law;
    private Rule otherLaw;
    private final RuleReader ruleReader;
    private final Reefs reefs;
    private final int[] eats;
    private int messCount;
    private final State state;
    private final State spare;
    private final Past past;
    private final Outlook outlook;
    private final Sightings sightings;
    private final int[] left;
    private final int[][] passing;

    public NobodyBeenAft() {
        text = new Text();
        told = new Row();
        ship = new Ship();
        otherShip = new Ship();
        law = new Rule();
        otherLaw = new Rule();
        ruleReader = new RuleReader();
        reefs = new Reefs();
        eats = new int[MAX_MESSES];
        messCount = 0;
        state = new State();
        spare = new State();
        past = new Past();
        outlook = new Outlook();
        sightings = new Sightings();
        left = new int[MAX_MESSES + 1];
        passing = new int[MAX_MESSES][MAX_MESSES + 1];
    }

    // ---- the ship, rocks, messes

    public int sign(int v) {
        if (text.size + 4 > MAX_SIGNS) {
            return NONE;
        }
        for (int shift = 24; shift >= 0; shift -= 8) {
            text.append((char) (v >>> shift & 255));
        }
        return text.size;
    }

    public boolean end(int n) {
        if (n < 0 || n > text.size) {
            return false;
        }
        text.size = n;
        return true;
    }

    public int ship() {
        text.open(SHIP_SIGNS);
        int fault = otherShip.readFrom(text);
        text.size = 0;
        if (fault != NO_FAULT) {
            return -1 - fault;
        }
        Ship was = ship;
        ship = otherShip;
        otherShip = was;
        return ship.posts;
    }

    public int rocks() {
        if (text.size == 0) {
            return 0;
        }
        text.open(ROCK_SIGNS);
        int before = reefs.count;
        int fault = reefs.readFrom(text);
        text.size = 0;
        if (fault != NO_FAULT) {
            return -1 - fault;
        }
        return reefs.count - before;
    }

    public int messes() {
        if (text.size == 0) {
            return 0;
        }
        text.open(MESS_SIGNS);
        int before = messCount;
        int fault = readMesses();
        text.size = 0;
        if (fault != NO_FAULT) {
            return -1 - fault;
        }
        past.forgetAll();
        return messCount - before;
    }

    public int rule() {
        if (text.size == 0) {
            law.size = 0;
            return 0;
        }
        text.open(RULE_SIGNS);
        int fault = ruleReader.readFrom(text, otherLaw);
        text.size = 0;
        if (fault != NO_FAULT) {
            return -1 - fault;
        }
        Rule was = law;
        law = otherLaw;
        otherLaw = was;
        return 0;
    }

    public int post(int post, int what) throws NoSuchElementException {
        if (post < 0 || post >= ship.posts || what < 0 || what > 1) {
            throw new NoSuchElementException();
        }
        return what == 0 ? ship.cells[post] : ship.lies[post];
    }

    public int rock(int rock, int what) throws NoSuchElementException {
        if (rock < 0 || rock >= reefs.count || what < 0 || what > 1) {
            throw new NoSuchElementException();
        }
        return what == 0 ? reefs.miles[rock] : reefs.lanesOf[rock];
    }

    public int mess(int mess, int what) throws NoSuchElementException {
        if (mess < 0 || mess >= messCount || what < 0 || what > 2) {
            throw new NoSuchElementException();
        }
        if (what == 0) {
            return state.food[mess];
        }
        return what == 1 ? eats[mess] : state.hungry[mess];
    }

    public int way(int order, int what) throws NoSuchElementException {
        if (order < 0 || order >= state.orders || what < 0 || what > 1) {
            throw new NoSuchElementException();
        }
        return what == 0 ? state.due[order] - state.now : state.helm[order];
    }

    public int sheet(int kind, int n, int f, int step) {
        if (kind < 0 || kind > 3 || n > MAX_MESSES) {
            return NONE;
        }
        if (kind < 3 && n < 0) {
            return -2;
        }
        int entries = kind == 3 ? 0 : n;
        int sum = 0;
        for (int i = 0; i < messCount; i++) {
            eats[i] = i < entries ? put(entry(kind, f + i * step), 0, MAX_EATS) : 0;
            sum += eats[i];
        }
        return kind == 3 ? -3 : sum;
    }

    // ---- steps

    public int delay() {
        return delayAt(state.now);
    }

    public int order(int v) {
        if (v < -1 || v > 1) {
            return NONE;
        }
        int refusal = orderRefusal();
        if (refusal != 0) {
            return refusal;
        }
        past.remember(state);
        return giveOrder(v);
    }

    public int pass(int mess, int n, int aft) {
        int refusal = passRefusal(mess, n, aft);
        if (refusal != 0) {
            return refusal;
        }
        past.remember(state);
        moveFood(mess, n, aft);
        return state.food[mess];
    }

    public int cook(int mess, int n) {
        if (mess < 0 || mess >= messCount || n < 0 || n > MAX_FOOD) {
            return NONE;
        }
        past.remember(state);
        int had = state.food[mess];
        state.food[mess] = n;
        return had;
    }

    public int steps(int n) {
        if (n < 0 || n > MAX_STEPS) {
            return NONE;
        }
        past.remember(state);
        int hitsBefore = state.hits;
        int hungry = 0;
        for (int i = 0; i < n; i++) {
            hungry += goStep();
        }
        told.tellTwo(state.hits - hitsBefore, hungry);
        return state.lane;
    }

    public int voyage() {
        text.open(VOYAGE_SIGNS);
        int fault = voyageFault();
        if (fault != NO_FAULT) {
            text.size = 0;
            return -1 - fault;
        }
        spare.copyFrom(state);
        text.open(VOYAGE_SIGNS);
        int done = 0;
        boolean refused = false;
        for (int i = 0; i < VOYAGE_SIGNS && !refused && !text.ended(); i++) {
            refused = !doVoyageSign();
            done += refused ? 0 : 1;
        }
        text.size = 0;
        if (done > 0) {
            past.remember(spare);
        }
        told.tellTwo(refused ? 1 : 0, state.hits - spare.hits);
        return done;
    }

    public int undo() {
        return past.bringBack(state) ? past.size : NONE;
    }

    // ---- where she will be

    public int lane(int n) {
        if (n < 0 || n > MAX_STEPS) {
            return NONE;
        }
        int hits = 0;
        for (int i = 0; i < reefs.count; i++) {
            int ahead = reefs.miles[i] - state.now;
            if (ahead >= 1 && ahead <= n && state.laneIn(ahead) == reefs.lanesOf[i]) {
                hits++;
            }
        }
        told.tellOne(hits);
        return state.laneIn(n);
    }

    public int strikes() {
        int soonest = MAX_MILE + 1;
        int first = NONE;
        for (int i = 0; i < reefs.count; i++) {
            int ahead = reefs.miles[i] - state.now;
            if (ahead >= 1 && ahead < soonest && state.laneIn(ahead) == reefs.lanesOf[i]) {
                soonest = ahead;
                first = i;
            }
        }
        if (first == NONE) {
            return -2;
        }
        told.tellOne(first);
        return soonest;
    }

    public int clears() {
        lookAhead();
        outlook.reach(state, firstFree(), HORIZON, false);
        int can = 0;
        int cannot = 0;
        for (int i = 0; i < reefs.count; i++) {
            int ahead = reefs.miles[i] - state.now;
            // From STEP 24 on no order that is under way now is left to narrow the LANES, and there
            // are two at least: so what holds at the horizon holds beyond it.
            if (ahead >= 1) {
                int reached = outlook.reached[Math.min(ahead, HORIZON)];
                boolean clear = (reached & ~(1 << reefs.lanesOf[i])) != 0;
                can |= clear ? 1 << i : 0;
                cannot |= clear ? 0 : 1 << i;
            }
        }
        told.tellOne(cannot);
        return can;
    }

    public int plan(int n) {
        if (n < 1 || n > HORIZON) {
            return NONE;
        }
        lookAhead();
        outlook.freeOrders(firstFree(), n);
        int fewest = outlook.fewestOrders(state, n);
        if (fewest >= TOO_MANY) {
            return -2;
        }
        outlook.chooseLeastRow(state, n, fewest);
        told.clear();
        for (int i = 0; i < n; i++) {
            told.add(outlook.chosen[i]);
        }
        return fewest;
    }

    public int latest(int n) {
        if (n < 1 || n > HORIZON) {
            return NONE;
        }
        lookAhead();
        for (int from = n - 1; from >= 0; from--) {
            outlook.reach(state, Math.max(from, firstFree()), n, true);
            if (outlook.reached[n] != 0) {
                return from;
            }
        }
        return -2;
    }

    public int lanes(int n) {
        if (n < 0 || n > HORIZON) {
            return NONE;
        }
        lookAhead();
        outlook.reach(state, firstFree(), n, true);
        told.tellOne(Integer.bitCount(outlook.reached[n]));
        return outlook.reached[n];
    }

    public int safest(int n) {
        if (n < 1 || n > MAX_MILE) {
            return NONE;
        }
        int best = state.lane;
        int fewest = rocksInLane(state.lane, n);
        int inHers = fewest;
        for (int i = 0; i <= LAST_LANE; i++) {
            int many = rocksInLane(i, n);
            if (many < fewest || many == fewest && apart(i) < apart(best)) {
                fewest = many;
                best = i;
            }
        }
        told.tellTwo(fewest, inHers);
        return best;
    }

    public int late(int n) {
        if (n < 1 || n > HORIZON) {
            return NONE;
        }
        lookAhead();
        told.clear();
        int many = 0;
        for (int i = 0; i < n; i++) {
            told.add(outlook.doneIn[i]);
            many += outlook.isOvertaken(i, n) ? 1 : 0;
        }
        return many;
    }

    public int comes(int n) {
        if (n < 0 || n > MAX_DELAY) {
            return NONE;
        }
        int stern = ship.length - 1;
        int late = delayAt(state.now);
        int cell = n >= late ? stern : stern * n / late;
        int by = 0;
        int liars = 0;
        for (int i = 0; i < ship.posts && ship.cells[i] <= cell; i++) {
            by++;
            liars += ship.lies[i];
        }
        told.tellTwo(by, liars % 2);
        return cell;
    }

    // ---- posts

    public int relay(int k) {
        if (k < 0 || k > MAX_POSTS) {
            return NONE;
        }
        int stern = ship.length - 1;
        if (k > stern - 1) {
            return -2;
        }
        int gap = (stern + k) / (k + 1);
        told.clear();
        int cell = 0;
        for (int behind = k; behind >= 1; behind--) {
            cell = Math.max(cell + 1, stern - gap * behind);
            told.add(cell);
        }
        return gap;
    }

    public int fewest(int v) {
        if (v < 1 || v > MAX_LONG - 1) {
            return NONE;
        }
        return (ship.length - 1 + v - 1) / v - 1;
    }

    public int word(int k, int p) {
        if (k < 1 || k > MOST_POST_ROWS || k % 2 == 0 || p < 0 || p > 10) {
            return NONE;
        }
        told.tellFraction(likelyWord(k, p), power(10, k));
        return 0;
    }

    public int survives(int p, int v) {
        if (p < 0 || p > 10 || v < 0 || v > 100) {
            return NONE;
        }
        for (int k = 1; k <= MOST_POST_ROWS; k += 2) {
            if (likelyWord(k, p) * 100 >= power(10, k) * v) {
                return k;
            }
        }
        return -2;
    }

    // ---- food

    public int lives(int how) {
        if (how < 0 || how > 3 || messCount == 0) {
            return NONE;
        }
        int least = LONGEST;
        int which = NONE;
        for (int i = 0; i < messCount; i++) {
            int from = how == 0 || how == 2 ? i : 0;
            int to = how == 0 || how == 1 ? i : messCount - 1;
            int lasts = lastsFor(from, to);
            if (lasts < least) {
                least = lasts;
                which = i;
            }
        }
        told.tellOne(which);
        return least;
    }

    public int shares(int n) {
        if (n < 0 || n > MAX_FOOD || messCount == 0) {
            return NONE;
        }
        left[0] = 0;
        for (int i = 0; i < messCount; i++) {
            left[i + 1] = left[i] + state.food[i] - eats[i] * n;
        }
        if (left[messCount] < 0) {
            return -2;
        }
        weighPassing();
        return choosePassing();
    }

    public int fast(int n) {
        if (n < 0 || n > MAX_FOOD || messCount == 0) {
            return NONE;
        }
        int best = (1 << messCount) - 1;
        int bestLeft = foodLeft(best, n);
        for (int set = best - 1; set >= 0; set--) {
            int rest = foodLeft(set, n);
            if (rest >= 0 && Integer.bitCount(set) <= Integer.bitCount(best)) {
                best = set;
                bestLeft = rest;
            }
        }
        told.tellTwo(Integer.bitCount(best), bestLeft);
        return best;
    }

    // ---- what was ordered

    public int seen(int k, int lane) {
        if (k < 0 || k > LAST_SEEN || lane < 0 || lane > LAST_LANE) {
            return NONE;
        }
        if (sightings.laneAt[k] != NONE) {
            return sightings.laneAt[k] == lane ? sightings.count : -2;
        }
        if (sightings.count >= MAX_SEEN) {
            return NONE;
        }
        sightings.laneAt[k] = lane;
        sightings.count++;
        return sightings.count;
    }

    public int forget() {
        int were = sightings.count;
        sightings.forgetAll();
        return were;
    }

    public int ordered() {
        if (sightings.count == 0) {
            return NONE;
        }
        int last = sightings.lastStep();
        sightings.countWays(last);
        told.clear();
        long many = sightings.ways[0][State.FIRST_LANE];
        int at = State.FIRST_LANE;
        for (int step = 1; many > 0 && step <= last; step++) {
            int v = sightings.leastOrder(step, at);
            told.add(v);
            at = keepOnSea(at + v);
        }
        return many > MOST_ROWS ? MOST_ROWS : (int) many;
    }

    public int unsure() {
        if (sightings.count == 0) {
            return -2;
        }
        int last = sightings.lastStep();
        sightings.countWays(last);
        int reached = 1 << State.FIRST_LANE & sightings.possible(0);
        if (reached == 0) {
            return -2;
        }
        int best = 0;
        int bestLanes = reached;
        for (int step = 1; step <= last; step++) {
            reached = widened(reached) & sightings.possible(step);
            if (Integer.bitCount(reached) > Integer.bitCount(bestLanes)) {
                best = step;
                bestLanes = reached;
            }
        }
        told.tellOne(bestLanes);
        return best;
    }

    // ---- the boy, lookouts, mutinies

    public int boy(int n, int r) {
        if (n < 0 || n > LONGEST || r < 2 || r > 9) {
            return NONE;
        }
        int walked = n - n / r;
        told.tellOne(walked % lap() < ship.length - 1 ? 1 : -1);
        return cellAfter(walked);
    }

    public int meets(int r) {
        if (r < 2 || r > 9) {
            return NONE;
        }
        int stern = ship.length - 1;
        for (int step = 1; step <= MAX_MILE; step++) {
            int cell = cellAfter(step - step / r);
            if (cell == cellAfter(stern + step)) {
                told.tellOne(cell);
                return step;
            }
        }
        return -2;
    }

    public int knows(int n, int p) {
        if (n < 0 || n > MOST_WORDS || p < 0 || p > 10) {
            return NONE;
        }
        told.tellFraction(power(10 - p, n) * p, power(10, n + 1));
        return 0;
    }

    public int mutiny(int a, int b, int v) {
        if (a < 1 || a > 20 || b < 1 || b > 20 || v < 1 || v > 18) {
            return NONE;
        }
        told.clear();
        int many = 0;
        for (int x = 0; x <= Math.min(MAX_BID, a); x++) {
            for (int y = 0; y <= Math.min(MAX_BID, b); y++) {
                if (!wantsAnother(a, x, y, v) && !wantsAnother(b, y, x, v)) {
                    if (many == 0) {
                        told.tellTwo(x, y);
                    }
                    many++;
                }
            }
        }
        return many;
    }

    // ---- chances, voyages

    public int chance(int n, int p, int s) {
        if (n < 1 || n > 12 || p < 0 || p > 10 || s < 0 || s > 12) {
            return NONE;
        }
        if (s >= delayAt(state.now)) {
            told.tellFraction(1, 1);
        } else {
            told.tellFraction(power(10 - p, n), power(10, n));
        }
        return 0;
    }

    public int voyages(int seed, int n) {
        if (n < 1 || n > MAX_STEPS) {
            return NONE;
        }
        spare.copyFrom(state);
        int drawn = seed;
        int given = 0;
        for (int i = 0; i < n; i++) {
            drawn = drawn * 1103515245 + 12345;
            int draw = (drawn >>> 16) % 4;
            if (draw < 2 && orderRefusal() == 0) {
                giveOrder(draw == 0 ? -1 : 1);
                given++;
            }
            goStep();
        }
        int hits = state.hits - spare.hits;
        told.tellTwo(state.lane, given);
        state.copyFrom(spare);
        return hits;
    }

    // ---- kept

    public boolean keep(int i) {
        if (i < 0 || i >= KEPT) {
            return false;
        }
        past.kept[i].copyFrom(state);
        past.isKept[i] = true;
        return true;
    }

    public boolean again(int i) {
        if (i < 0 || i >= KEPT || !past.isKept[i]) {
            return false;
        }
        state.copyFrom(past.kept[i]);
        past.size = 0;
        return true;
    }

    public int count(int what) {
        switch (what) {
            case 0:
                return ship.length;
            case 1:
                return ship.posts;
            case 2:
                return ship.liars;
            case 3:
                return reefs.count;
            case 4:
                return messCount;
            case 5:
                return state.now;
            case 6:
                return state.lane;
            case 7:
                return state.hits;
            case 8:
                return state.orders;
            case 9:
                return sightings.count;
            case 10:
                return past.size;
            case 11:
                return told.size;
            case 12:
                return text.size;
            default:
                return -100;
        }
    }

    public long row(int i) throws NoSuchElementException {
        if (i < 0 || i >= told.size) {
            throw new NoSuchElementException();
        }
        return told.numbers[i];
    }

    // ---- what the calls share: texts

    private static boolean isDigit(int sign) {
        return sign >= '0' && sign <= '9';
    }

    /** New MESSES stand behind the others; they count only when the whole text can stand. */
    private int readMesses() {
        int many = messCount;
        for (int i = 0; i <= MAX_MESSES; i++) {
            if (many >= MAX_MESSES) {
                return text.at;
            }
            int food = text.takeNumber(2);
            if (food == NONE || !text.take('*')) {
                return text.at;
            }
            int eaten = text.takeNumber(1);
            if (eaten == NONE) {
                return text.at;
            }
            state.food[many] = food;
            state.hungry[many] = 0;
            eats[many] = eaten;
            many++;
            if (text.ended()) {
                break;
            }
            if (!text.take(';')) {
                return text.at;
            }
        }
        int fault = text.faultAtEnd();
        messCount = fault == NO_FAULT ? many : messCount;
        return fault;
    }

    private int voyageFault() {
        for (int i = 0; i < VOYAGE_SIGNS && !text.ended(); i++) {
            int sign = text.next();
            text.at++;
            if (sign == 'p') {
                if (!isDigit(text.next())) {
                    return text.at;
                }
                text.at++;
            } else if (sign != '<' && sign != '=' && sign != '>' && (sign < '1' || sign > '9')) {
                return text.at - 1;
            }
        }
        return text.faultAtEnd();
    }

    /** Does the next sign of a voyage that can stand: false if it is refused. */
    private boolean doVoyageSign() {
        int sign = text.next();
        text.at++;
        if (sign == 'p') {
            int mess = text.takeNumber(1);
            if (passRefusal(mess, 1, 1) != 0) {
                return false;
            }
            moveFood(mess, 1, 1);
            return true;
        }
        if (isDigit(sign)) {
            for (int i = '0'; i < sign; i++) {
                goStep();
            }
            return true;
        }
        if (orderRefusal() != 0) {
            return false;
        }
        // < = > stand one behind another in this row of signs
        giveOrder(sign - '=');
        return true;
    }

    private static int put(int v, int least, int most) {
        return Math.max(least, Math.min(most, v));
    }

    private static int entry(int kind, int v) {
        if (kind == 0) {
            return (byte) v;
        }
        return kind == 1 ? (short) v : v;
    }

    // ---- what the calls share: orders and steps

    private static int keepOnSea(int lane) {
        return put(lane, 0, LAST_LANE);
    }

    private int delayAt(int step) {
        int late = law.size == 0 ? ship.length / 8 + 1 : law.work(ship, step % RESTS);
        return put(late, 1, MAX_DELAY);
    }

    /** 0 if an order may be given now, else why not. */
    private int orderRefusal() {
        if (state.gaveNow()) {
            return -2;
        }
        return state.orders >= MAX_ORDERS ? -3 : 0;
    }

    private int giveOrder(int v) {
        int late = delayAt(state.now);
        state.addOrder(late, ship.liars % 2 == 1 ? -v : v);
        return late;
    }

    /** 0 if the FOOD may be passed, else why not. */
    private int passRefusal(int mess, int n, int aft) {
        if (mess < 0 || mess >= messCount || n < 1 || n > MAX_FOOD || aft < 0 || aft > 1) {
            return NONE;
        }
        int to = aft == 1 ? mess + 1 : mess - 1;
        if (to < 0 || to >= messCount) {
            return NONE;
        }
        if (state.food[mess] < n) {
            return -2;
        }
        return state.food[to] + n > MAX_FOOD ? -3 : 0;
    }

    private void moveFood(int mess, int n, int aft) {
        int to = aft == 1 ? mess + 1 : mess - 1;
        state.food[mess] -= n;
        state.food[to] += n;
    }

    /** One STEP: how many MESSES are HUNGRY in it. */
    private int goStep() {
        state.now++;
        state.doDueOrders();
        for (int i = 0; i < reefs.count; i++) {
            if (reefs.miles[i] == state.now && reefs.lanesOf[i] == state.lane) {
                state.hits++;
            }
        }
        int hungry = 0;
        for (int i = 0; i < messCount; i++) {
            hungry += state.eat(i, eats[i]) ? 0 : 1;
        }
        return hungry;
    }

    // ---- what the calls share: where she will be

    /** The first STEP from now in which an order may still be given. */
    private int firstFree() {
        return state.gaveNow() ? 1 : 0;
    }

    /** Puts what she goes to meet into the outlook: when orders would be done, where ROCKS are. */
    private void lookAhead() {
        outlook.turned = ship.liars % 2 == 1;
        for (int i = 0; i < HORIZON; i++) {
            // the rule knows a STEP by its rest alone
            outlook.doneIn[i] = i < RESTS
                ? i + delayAt(state.now + i) : outlook.doneIn[i - RESTS] + RESTS;
        }
        Arrays.fill(outlook.rocksIn, 0);
        for (int i = 0; i < reefs.count; i++) {
            int ahead = reefs.miles[i] - state.now;
            if (ahead >= 1 && ahead <= HORIZON) {
                outlook.rocksIn[ahead] |= 1 << reefs.lanesOf[i];
            }
        }
    }

    private int rocksInLane(int lane, int n) {
        int many = 0;
        for (int i = 0; i < reefs.count; i++) {
            int ahead = reefs.miles[i] - state.now;
            if (reefs.lanesOf[i] == lane && ahead >= 1 && ahead <= n) {
                many++;
            }
        }
        return many;
    }

    private int apart(int lane) {
        return Math.abs(lane - state.lane);
    }

    /** LANES next to one of a set, and the set itself. */
    private static int widened(int lanes) {
        return (lanes | lanes << 1 | lanes >> 1) & ALL_LANES;
    }

    // ---- what the calls share: chances

    private static long power(long of, int n) {
        long all = 1;
        for (int i = 0; i < n; i++) {
            all *= of;
        }
        return all;
    }

    /** How likely most of k rows tell a word as it was, in parts of 10 to the k. */
    private static long likelyWord(int k, int p) {
        long sum = 0;
        long ways = 1;
        // by how many rows turn it round, as long as these are the fewer
        for (int turned = 0; turned <= k / 2; turned++) {
            sum += ways * power(p, turned) * power(10 - p, k - turned);
            ways = ways * (k - turned) / (turned + 1);
        }
        return sum;
    }

    // ---- what the calls share: food

    private int lastsFor(int from, int to) {
        int food = 0;
        int eaten = 0;
        for (int i = from; i <= to; i++) {
            food += state.food[i];
            eaten += eats[i];
        }
        return eaten == 0 ? LONGEST : food / eaten;
    }

    private int foodLeft(int without, int n) {
        int rest = 0;
        for (int i = 0; i < messCount; i++) {
            rest += state.food[i];
            rest -= (without >> i & 1) == 1 ? 0 : eats[i] * n;
        }
        return rest;
    }

    /**
     * What goes from MESS i to the next one is left[i + 1] less what the first i + 1 of them keep
     * beyond what they EAT. What they keep is 0 or more, is never less for one MESS more, and is no
     * more than is left in all. The sum of what is passed bends only where it is some left[c]: so
     * these alone are tried. passing[i][c]: the least passed from MESS i on, if left[c] is kept.
     */
    private void weighPassing() {
        for (int i = messCount - 2; i >= 0; i--) {
            for (int c = 0; c <= messCount; c++) {
                passing[i][c] = Math.abs(left[i + 1] - left[c]);
                if (i < messCount - 2) {
                    passing[i][c] += leastPassing(i + 1, left[c]);
                }
            }
        }
    }

    private int leastPassing(int mess, int atLeast) {
        int least = TOO_MUCH;
        for (int c = 0; c <= messCount; c++) {
            if (left[c] >= atLeast && left[c] <= left[messCount]) {
                least = Math.min(least, passing[mess][c]);
            }
        }
        return least;
    }

    /** Tells the least row of those that pass least. */
    private int choosePassing() {
        told.clear();
        int kept = 0;
        int all = 0;
        for (int i = 0; i < messCount - 1; i++) {
            int least = leastPassing(i, kept);
            int most = kept;
            for (int c = 0; c <= messCount; c++) {
                // the more is left here, the less goes on
                if (left[c] > most && left[c] <= left[messCount] && passing[i][c] == least) {
                    most = left[c];
                }
            }
            kept = most;
            told.add(left[i + 1] - kept);
            all += Math.abs(left[i + 1] - kept);
        }
        return all;
    }

    // ---- what the calls share: boys and mutinies

    /** CELLS from the bow to the stern and back; it divides, so it is never 0. */
    private int lap() {
        return 2 * Math.max(1, ship.length - 1);
    }

    /** Where one is who has walked so many CELLS from the bow, to and fro. */
    private int cellAfter(int walked) {
        int rest = walked % lap();
        return rest < ship.length ? rest : lap() - rest;
    }

    private static int holdsThen(int holds, int bid, int other, int v) {
        return bid + other >= v ? holds - bid : holds / 2;
    }

    private static boolean wantsAnother(int holds, int bid, int other, int v) {
        int has = holdsThen(holds, bid, other, v);
        for (int i = 0; i <= Math.min(MAX_BID, holds); i++) {
            if (holdsThen(holds, i, other, v) > has) {
                return true;
            }
        }
        return false;
    }

    // ---- what is kept

    /** THE TEXT, and where its reader stands, who sees its first signs alone. */
    private static final class Text {
        final char[] signs = new char[MAX_SIGNS];
        int size;
        int at;
        int stop;
        boolean more;
        boolean cutShort;

        void append(char sign) {
            if (size < MAX_SIGNS) {
                signs[size] = sign;
                size++;
            }
        }

        void open(int limit) {
            at = 0;
            stop = Math.min(size, limit);
            more = size > limit;
            cutShort = false;
        }

        boolean ended() {
            return at >= stop;
        }

        /** The sign that the reader stands at; NONE at the end. */
        int next() {
            return at >= 0 && at < stop && at < MAX_SIGNS ? signs[at] : NONE;
        }

        boolean take(char sign) {
            if (next() != sign) {
                return false;
            }
            at++;
            return true;
        }

        /** A number of at most so many digits; NONE if there is none. */
        int takeNumber(int most) {
            int value = 0;
            int read = 0;
            while (read < most && isDigit(next())) {
                value = value * 10 + next() - '0';
                at++;
                read++;
            }
            cutShort = read < most && more && ended();
            return read == 0 ? NONE : value;
        }

        /** What is told at the end of a text that can stand so far. */
        int faultAtEnd() {
            return more ? stop : NO_FAULT;
        }
    }

    /** THE ROW. */
    private static final class Row {
        final long[] numbers = new long[HORIZON];
        int size;

        void clear() {
            size = 0;
        }

        void add(long number) {
            if (size < HORIZON) {
                numbers[size] = number;
                size++;
            }
        }

        void tellOne(long number) {
            clear();
            add(number);
        }

        void tellTwo(long first, long second) {
            clear();
            add(first);
            add(second);
        }

        void tellFraction(long upper, long lower) {
            long common = upper;
            long rest = lower;
            // no two numbers of 63 bits need 100 divisions
            for (int i = 0; i < 100 && rest != 0; i++) {
                long next = common % rest;
                common = rest;
                rest = next;
            }
            long by = common == 0 ? 1 : common;
            tellTwo(upper / by, lower / by);
        }
    }

    /** THE SHIP. */
    private static final class Ship {
        int length = 2;
        int posts;
        int liars;
        final int[] cells = new int[MAX_POSTS];
        final int[] lies = new int[MAX_POSTS];

        /** The place of the first sign that can't stand, or NO_FAULT. */
        int readFrom(Text text) {
            posts = 0;
            liars = 0;
            length = text.takeNumber(2);
            if (length == NONE) {
                return text.at;
            }
            if (length < 2 || length > MAX_LONG) {
                return text.at - 1;
            }
            int ahead = NONE;
            for (int i = 0; i <= MAX_POSTS && !text.ended(); i++) {
                if (i == MAX_POSTS || !text.take(',')) {
                    return text.at;
                }
                int cell = text.takeNumber(2);
                if (cell == NONE) {
                    return text.at;
                }
                if (cell <= ahead || cell >= length) {
                    return text.at - 1;
                }
                ahead = cell;
                addPost(cell, text.take('*') ? 1 : 0);
            }
            return text.faultAtEnd();
        }

        private void addPost(int cell, int lie) {
            if (posts < MAX_POSTS) {
                cells[posts] = cell;
                lies[posts] = lie;
                posts++;
                liars += lie;
            }
        }
    }

    /** THE ROCKS. */
    private static final class Reefs {
        int count;
        final int[] miles = new int[MAX_ROCKS];
        final int[] lanesOf = new int[MAX_ROCKS];

        /** New ROCKS count only when the whole text can stand. */
        int readFrom(Text text) {
            int many = count;
            for (int i = 0; i <= MAX_ROCKS; i++) {
                if (many >= MAX_ROCKS) {
                    return text.at;
                }
                int mile = text.takeNumber(3);
                if (mile == 0 && !text.cutShort) {
                    return text.at - 1;
                }
                if (mile == NONE || !text.take(',')) {
                    return text.at;
                }
                int lane = text.next() - '0';
                if (lane < 0 || lane > LAST_LANE) {
                    return text.at;
                }
                text.at++;
                miles[many] = mile;
                lanesOf[many] = lane;
                many++;
                if (text.ended()) {
                    break;
                }
                if (!text.take(';')) {
                    return text.at;
                }
            }
            int fault = text.faultAtEnd();
            count = fault == NO_FAULT ? many : count;
            return fault;
        }
    }

    /** THE RULE, in the order in which it is worked out: numbers, and signs put below 0. */
    private static final class Rule {
        // above 255, so that no sign of a text is taken for it
        static final int TURN = 256;
        final int[] code = new int[RULE_SIGNS];
        int size;
        final int[] values = new int[RULE_SIGNS];
        int top;

        void add(int word) {
            if (size < RULE_SIGNS) {
                code[size] = word;
                size++;
            }
        }

        int work(Ship ship, int rest) {
            top = 0;
            for (int i = 0; i < size; i++) {
                int sign = -code[i];
                if (sign <= 0) {
                    push(code[i]);
                } else if (sign == TURN) {
                    push(-pop());
                } else if (RuleReader.rank(sign) > 0) {
                    int second = pop();
                    push(apply(sign, pop(), second));
                } else {
                    push(valueOf(sign, ship, rest));
                }
            }
            return pop();
        }

        private void push(int value) {
            if (top < RULE_SIGNS) {
                values[top] = value;
                top++;
            }
        }

        private int pop() {
            if (top <= 0) {
                return 0;
            }
            top--;
            return values[top];
        }

        private static int valueOf(int sign, Ship ship, int rest) {
            switch (sign) {
                case 'l':
                    return ship.length;
                case 'p':
                    return ship.posts;
                case 'x':
                    return ship.liars;
                default:
                    return rest;
            }
        }

        private static int apply(int sign, int a, int b) {
            switch (sign) {
                case '<':
                    return a < b ? 1 : 0;
                case '>':
                    return a > b ? 1 : 0;
                case '=':
                    return a == b ? 1 : 0;
                case '+':
                    return a + b;
                case '-':
                    return a - b;
                case '*':
                    return a * b;
                default:
                    return b == 0 ? 0 : a / b;
            }
        }
    }

    /** Reads a rule from left to right; signs wait till nothing behind them binds more. */
    private static final class RuleReader {
        static final int DEEPEST = 4;
        static final int COMPARES = 1;
        static final int TURNS = 4;
        final int[] waiting = new int[RULE_SIGNS];
        int waits;
        int depth;
        int compared;
        boolean wantsThing;

        /** The place of the first sign that can't stand, or NO_FAULT. */
        int readFrom(Text text, Rule into) {
            into.size = 0;
            waits = 0;
            depth = 0;
            compared = 0;
            wantsThing = true;
            for (int i = 0; i < RULE_SIGNS && !text.ended(); i++) {
                boolean stands = wantsThing ? takeThing(text, into) : takeOperator(text, into);
                if (!stands) {
                    return text.at;
                }
            }
            if (wantsThing || depth > 0) {
                return text.at;
            }
            release(COMPARES, into);
            return text.faultAtEnd();
        }

        private boolean takeThing(Text text, Rule into) {
            int sign = text.next();
            if (isDigit(sign)) {
                into.add(text.takeNumber(3));
                wantsThing = false;
                return true;
            }
            if (sign == 'l' || sign == 'p' || sign == 'x' || sign == 'n') {
                into.add(-sign);
                wantsThing = false;
            } else if (sign == '-') {
                hold(Rule.TURN);
            } else if (sign == '(' && depth < DEEPEST) {
                depth++;
                compared &= ~(1 << depth);
                hold(sign);
            } else {
                return false;
            }
            text.at++;
            return true;
        }

        private boolean takeOperator(Text text, Rule into) {
            int sign = text.next();
            int rank = rank(sign);
            if (sign == ')' && depth > 0) {
                release(COMPARES, into);
                waits--;
                depth--;
            } else if (rank == 0 || rank == COMPARES && (compared >> depth & 1) == 1) {
                return false;
            } else {
                compared |= rank == COMPARES ? 1 << depth : 0;
                release(rank, into);
                hold(sign);
                wantsThing = true;
            }
            text.at++;
            return true;
        }

        private void hold(int sign) {
            if (waits < RULE_SIGNS) {
                waiting[waits] = sign;
                waits++;
            }
        }

        /** What waits and binds as much or more comes now; a bracket stops it. */
        private void release(int rank, Rule into) {
            while (waits > 0 && rank(waiting[waits - 1]) >= rank) {
                waits--;
                into.add(-waiting[waits]);
            }
        }

        static int rank(int sign) {
            switch (sign) {
                case '<':
                case '>':
                case '=':
                    return COMPARES;
                case '+':
                case '-':
                    return 2;
                case '*':
                case '/':
                    return 3;
                case Rule.TURN:
                    return TURNS;
                default:
                    return 0;
            }
        }
    }

    /** What a step changes; orders stand by when they are due, then by when they were given. */
    private static final class State {
        static final int FIRST_LANE = 4;
        int now;
        int lane = FIRST_LANE;
        int hits;
        int lastGiven = NONE;
        int orders;
        final int[] due = new int[MAX_ORDERS];
        final int[] helm = new int[MAX_ORDERS];
        final int[] food = new int[MAX_MESSES];
        final int[] hungry = new int[MAX_MESSES];

        void copyFrom(State other) {
            now = other.now;
            lane = other.lane;
            hits = other.hits;
            lastGiven = other.lastGiven;
            orders = other.orders;
            System.arraycopy(other.due, 0, due, 0, MAX_ORDERS);
            System.arraycopy(other.helm, 0, helm, 0, MAX_ORDERS);
            System.arraycopy(other.food, 0, food, 0, MAX_MESSES);
            System.arraycopy(other.hungry, 0, hungry, 0, MAX_MESSES);
        }

        boolean gaveNow() {
            return lastGiven == now;
        }

        void addOrder(int late, int v) {
            if (orders >= MAX_ORDERS) {
                return;
            }
            int at = orders;
            while (at > 0 && due[at - 1] > now + late) {
                due[at] = due[at - 1];
                helm[at] = helm[at - 1];
                at--;
            }
            due[at] = now + late;
            helm[at] = v;
            orders++;
            lastGiven = now;
        }

        void doDueOrders() {
            int done = 0;
            while (done < orders && due[done] <= now) {
                lane = keepOnSea(lane + helm[done]);
                done++;
            }
            orders -= done;
            System.arraycopy(due, done, due, 0, orders);
            System.arraycopy(helm, done, helm, 0, orders);
        }

        /** Her LANE in n STEPS by the orders under way alone. */
        int laneIn(int n) {
            int there = lane;
            for (int i = 0; i < orders && due[i] - now <= n; i++) {
                there = keepOnSea(there + helm[i]);
            }
            return there;
        }

        /** False if the MESS is HUNGRY. */
        boolean eat(int mess, int eaten) {
            if (food[mess] < eaten) {
                food[mess] = 0;
                hungry[mess]++;
                return false;
            }
            food[mess] -= eaten;
            return true;
        }
    }

    /** States that can be brought back: a ring of those ahead of the latest calls, and kept ones. */
    private static final class Past {
        final State[] ring = new State[MAX_UNDO];
        int first;
        int size;
        final State[] kept = new State[KEPT];
        final boolean[] isKept = new boolean[KEPT];

        Past() {
            for (int i = 0; i < MAX_UNDO; i++) {
                ring[i] = new State();
            }
            for (int i = 0; i < KEPT; i++) {
                kept[i] = new State();
            }
        }

        void remember(State state) {
            ring[(first + size) % MAX_UNDO].copyFrom(state);
            if (size < MAX_UNDO) {
                size++;
            } else {
                first = (first + 1) % MAX_UNDO;
            }
        }

        boolean bringBack(State into) {
            if (size <= 0) {
                return false;
            }
            size--;
            into.copyFrom(ring[(first + size) % MAX_UNDO]);
            return true;
        }

        void forgetAll() {
            size = 0;
            for (int i = 0; i < KEPT; i++) {
                isKept[i] = false;
            }
        }
    }

    /** What orders from now on could do, by STEPS from now. */
    private static final class Outlook {
        final int[] doneIn = new int[HORIZON];
        final int[] rocksIn = new int[HORIZON + 1];
        final int[] reached = new int[HORIZON + 1];
        final int[] chosen = new int[HORIZON];
        final int[] cost = new int[LAST_LANE + 1];
        boolean turned;

        boolean isOvertaken(int order, int n) {
            for (int i = order + 1; i < n; i++) {
                if (doneIn[i] < doneIn[order]) {
                    return true;
                }
            }
            return false;
        }

        /** LANES that can be reached in up to n STEPS by orders given in STEP first or later. */
        void reach(State state, int first, int n, boolean unhurt) {
            reached[0] = 1 << state.lane;
            int next = 0;
            for (int step = 1; step <= n; step++) {
                int lanes = reached[step - 1];
                while (next < state.orders && state.due[next] - state.now <= step) {
                    lanes = moved(lanes, state.helm[next]);
                    next++;
                }
                // those under way were all given ahead of these, and so are done ahead of them
                for (int i = Math.max(first, step - MAX_DELAY); i < step; i++) {
                    lanes = doneIn[i] == step ? widened(lanes) : lanes;
                }
                reached[step] = unhurt ? lanes & ~rocksIn[step] : lanes;
            }
        }

        private static int moved(int lanes, int v) {
            if (v == 0) {
                return lanes;
            }
            return v > 0 ? (lanes << 1 | lanes & 1 << LAST_LANE) & ALL_LANES : lanes >> 1 | lanes & 1;
        }

        /** Leaves open each order that may be given and is done within n STEPS. */
        void freeOrders(int first, int n) {
            for (int i = 0; i < n; i++) {
                chosen[i] = i >= first && doneIn[i] <= n ? FREE : 0;
            }
        }

        /** How many orders but 0 clear all ROCKS, those that are chosen among them. */
        int fewestOrders(State state, int n) {
            Arrays.fill(cost, TOO_MANY);
            cost[state.lane] = 0;
            int next = 0;
            for (int step = 1; step <= n; step++) {
                while (next < state.orders && state.due[next] - state.now <= step) {
                    moveCosts(state.helm[next]);
                    next++;
                }
                for (int i = Math.max(0, step - MAX_DELAY); i < step; i++) {
                    if (doneIn[i] == step) {
                        doChosen(chosen[i]);
                    }
                }
                for (int i = 0; i <= LAST_LANE; i++) {
                    cost[i] = (rocksIn[step] >> i & 1) == 1 ? TOO_MANY : cost[i];
                }
            }
            int least = TOO_MANY;
            for (int i = 0; i <= LAST_LANE; i++) {
                least = Math.min(least, cost[i]);
            }
            return least;
        }

        private void doChosen(int v) {
            if (v == FREE) {
                int below = TOO_MANY;
                for (int i = 0; i <= LAST_LANE; i++) {
                    int here = cost[i];
                    int above = i < LAST_LANE ? cost[i + 1] : TOO_MANY;
                    cost[i] = Math.min(here, 1 + Math.min(below, above));
                    below = here;
                }
            } else if (v != 0) {
                moveCosts(turned ? -v : v);
                for (int i = 0; i <= LAST_LANE; i++) {
                    cost[i]++;
                }
            }
        }

        private void moveCosts(int v) {
            if (v > 0) {
                cost[LAST_LANE] = Math.min(cost[LAST_LANE], cost[LAST_LANE - 1]);
                System.arraycopy(cost, 0, cost, 1, LAST_LANE - 1);
                cost[0] = TOO_MANY;
            } else if (v < 0) {
                cost[0] = Math.min(cost[0], cost[1]);
                System.arraycopy(cost, 2, cost, 1, LAST_LANE - 1);
                cost[LAST_LANE] = TOO_MANY;
            }
        }

        void chooseLeastRow(State state, int n, int fewest) {
            int spent = 0;
            for (int i = 0; i < n; i++) {
                if (chosen[i] == FREE) {
                    chosen[i] = spent == fewest ? 0 : leastChoice(state, i, n, fewest);
                    spent += chosen[i] == 0 ? 0 : 1;
                }
            }
        }

        private int leastChoice(State state, int order, int n, int fewest) {
            for (int v = -1; v <= 0; v++) {
                chosen[order] = v;
                if (fewestOrders(state, n) == fewest) {
                    return v;
                }
            }
            return 1;
        }
    }

    /** In which LANES she was seen, and by how many rows of orders she could be. */
    private static final class Sightings {
        int count;
        final int[] laneAt = new int[LAST_SEEN + 1];
        final long[][] ways = new long[LAST_SEEN + 1][LAST_LANE + 1];

        Sightings() {
            Arrays.fill(laneAt, NONE);
        }

        void forgetAll() {
            count = 0;
            Arrays.fill(laneAt, NONE);
        }

        int lastStep() {
            int last = LAST_SEEN;
            while (last > 0 && laneAt[last] == NONE) {
                last--;
            }
            return last;
        }

        /** ways[k][lane]: rows of orders behind STEP k that go on as she was seen, from that LANE. */
        void countWays(int last) {
            for (int step = last; step >= 0; step--) {
                for (int lane = 0; lane <= LAST_LANE; lane++) {
                    boolean could = laneAt[step] == NONE || laneAt[step] == lane;
                    ways[step][lane] = !could ? 0 : step == last ? 1 : waysBehind(step, lane);
                }
            }
        }

        private long waysBehind(int step, int lane) {
            long sum = 0;
            for (int v = -1; v <= 1; v++) {
                sum += ways[step + 1][keepOnSea(lane + v)];
            }
            return sum;
        }

        int leastOrder(int step, int from) {
            int v = -1;
            while (v < 1 && ways[step][keepOnSea(from + v)] == 0) {
                v++;
            }
            return v;
        }

        /** LANES from which the rest can go on as she was seen. */
        int possible(int step) {
            int lanes = 0;
            for (int i = 0; i <= LAST_LANE; i++) {
                lanes |= ways[step][i] > 0 ? 1 << i : 0;
            }
            return lanes;
        }
    }
}
