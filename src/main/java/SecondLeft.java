import java.util.Arrays;

/**
 * Second left, then ask again: a town, its tellers and their tellings, one who walks, asks and
 * follows, and what can be known of where a telling leads.
 */
public final class SecondLeft {
    public static final int NONE = -1;

    private static final int OTHER = -2;

    private static final int MOST_CORNERS = 16;
    private static final int MOST_SIGHT = 5;
    private static final int MOST_TELLERS = 6;
    private static final int MOST_SLIP = 10;
    private static final int MOST_TELLINGS = 8;
    private static final int MOST_TURNS = 6;
    private static final int MOST_BY_NUMBER = 4;
    private static final int MOST_TEXTS = 4;
    private static final int MOST_BYTES = 300;
    private static final int MOST_CLAUSES = 24;
    private static final int MOST_OPEN = 8;
    private static final int MOST_NUMBER = 9999;
    private static final int MOST_VALUE = 1000000;
    private static final int MOST_WALKED = 20;
    private static final int MOST_STEPS = 30;
    private static final int MOST_COME_TO = 40;
    private static final int MOST_BY_ALL = 4;
    private static final int MOST_SEEN = 5;
    private static final int MOST_TOLD = 3;
    private static final int MOST_SIGNS = 4;
    private static final int MOST_MAPPED = 8;
    private static final int WAYS = 8;
    private static final int ALL_WEIGHTS = 1000;

    private static final int LEFT = 1;
    private static final int RIGHT = 2;
    private static final int ON = 3;
    private static final int BACK = 3;

    private static final int SWAPPED = 1;
    private static final int LEFT_OUT = 2;
    private static final int MIXED = 4;

    // Columns of a teller's row, of a telling's row, and of what a step keeps.
    private static final int TELLER_SIZE = 4;
    private static final int TELLING_SIZE = 9;
    private static final int FACING = 1;
    private static final int COUNT = 2;
    private static final int TURNS = 3;
    private static final int STEP_SIZE = 10;
    private static final int AT = 0;
    private static final int SECONDS = 2;
    private static final int X = 3;
    private static final int ASKED = 4;

    private static final int FIRST_X = 29;

    // Every word that a text may have, each with a blank behind it; its number is its place here.
    private static final String WORDS = "swaps leaves mixes pace asks corner street lane goal teller telling start walk turn ask follow to facing at of end least most left right on back who here asked turns face told narrow sight way ";
    private static final int PACE = 3;
    private static final int ASKS = 4;
    private static final int LAWS = 5;
    private static final int W_CORNER = 5;
    private static final int W_STREET = 6;
    private static final int W_LANE = 7;
    private static final int W_GOAL = 8;
    private static final int W_TELLER = 9;
    private static final int W_TELLING = 10;
    private static final int W_START = 11;
    private static final int W_WALK = 12;
    private static final int W_TURN = 13;
    private static final int W_ASK = 14;
    private static final int W_FOLLOW = 15;
    private static final int W_TO = 16;
    private static final int W_FACING = 17;
    private static final int W_AT = 18;
    private static final int W_OF = 19;
    private static final int W_END = 20;
    private static final int W_LEAST = 21;
    private static final int W_MOST = 22;
    private static final int W_LEFT = 23;
    private static final int W_ON = 25;
    private static final int W_BACK = 26;
    private static final int W_WHO = 27;

    // Names by their place behind "who".
    private static final int NAMES = 9;
    private static final int N_WHO = 0;
    private static final int N_HERE = 1;
    private static final int N_ASKED = 2;
    private static final int N_TURNS = 3;
    private static final int N_FACE = 4;
    private static final int N_TOLD = 5;
    private static final int N_NARROW = 6;
    private static final int N_SIGHT = 7;
    private static final int N_WAY = 8;
    private static final int NAMES_OF_SLIPS = 63;
    private static final int NAMES_OF_PACE = 448;
    private static final int NAMES_OF_ASKS = 7;

    // A law's code: a number is itself, a name or a deed is what stands here.
    private static final int CODE_NAME = 10000;
    private static final int PLUS = 20000;
    private static final int MINUS = 20001;
    private static final int TIMES = 20002;
    private static final int BY = 20003;
    private static final int LEAST = 20004;
    private static final int MOST = 20005;
    private static final int LESS = 20006;
    // Eight open ones around one another hold three values each at most.
    private static final int STACK_SIZE = 40;

    // A clause as it is kept: its word and up to four numbers.
    private static final int CLAUSE_SIZE = 5;

    // Tokens.
    private static final int T_END = 0;
    private static final int T_WORD = 1;
    private static final int T_NUMBER = 2;
    private static final int T_SIGN = 3;

    private final Town town;
    private final Town townOfImage;
    private final Walk now;
    private final Walk walkOfImage;
    private final int[] tape;
    private final Reader reader;
    private final Laws laws;
    private final Going going;
    private final Walker hand;
    private final Ways ways;
    private final Visits visits;
    private final Finder finder;
    private final Posts posts;
    private int fed;
    private int latestFault;
    private int latestPlace;

    public SecondLeft() {
        town = new Town();
        townOfImage = new Town();
        now = new Walk();
        walkOfImage = new Walk();
        tape = new int[MOST_BYTES];
        reader = new Reader(tape);
        laws = new Laws(town, now);
        going = new Going(town);
        hand = new Walker(town, now, laws, going);
        ways = new Ways(town, laws, going);
        visits = new Visits(town, now, laws, ways);
        finder = new Finder(town, going);
        posts = new Posts(town);
        fed = 0;
        latestFault = NONE;
        latestPlace = NONE;
    }

    public int corner(int sight) {
        return town.addCorner(sight);
    }

    public boolean street(int from, int direction, int to, boolean lane) {
        return town.addStreet(from, direction, to, lane ? 1 : 0);
    }

    public boolean goal(int corner) {
        return town.setGoal(corner);
    }

    public int teller(int corner, int swap, int leave, int mix) {
        return town.addTeller(corner, swap, leave, mix);
    }

    public int telling(int teller, int facing, int turns, int more) {
        return town.addTelling(teller, facing, turns, more);
    }

    public int feed(int a, int b, int c, int d, int e) {
        if (fed + 20 > MOST_BYTES) {
            return NONE;
        }
        putBytes(a);
        putBytes(b);
        putBytes(c);
        putBytes(d);
        putBytes(e);
        return fed;
    }

    private void putBytes(int four) {
        for (int shift = 24; shift >= 0 && fed < MOST_BYTES; shift -= 8) {
            tape[fed] = four >> shift & 255;
            fed++;
        }
    }

    public int end(int n) {
        if (n < 0 || n > fed) {
            return NONE;
        }
        fed = n;
        return n;
    }

    public int text() {
        if (town.texts >= MOST_TEXTS) {
            return NONE;
        }
        boolean fine = reader.reads(fed);
        fed = 0;
        latestFault = reader.fault;
        latestPlace = reader.faultPlace;
        return fine ? town.addText(reader.asRead()) : NONE;
    }

    public int fault(int what) {
        if (what == 0) {
            return latestFault;
        }
        return what == 1 ? latestPlace : NONE;
    }

    public boolean by(int text) {
        if (text < NONE || text >= town.texts) {
            return false;
        }
        town.ruling = text;
        return true;
    }

    public boolean start(int corner, int facing) {
        return hand.begins(corner, facing);
    }

    public int walk(int n) {
        if (n < 1 || n > MOST_WALKED || !hand.canGo(n)) {
            return NONE;
        }
        hand.goes(n);
        return now.row[AT];
    }

    public int turn(int side) {
        return hand.turns(side);
    }

    public int ask(int teller) {
        return hand.asks(teller);
    }

    public int follow(int telling) {
        return hand.follows(telling);
    }

    public int played(int text) {
        Text script = town.textOf(text);
        return script == null ? OTHER : hand.plays(script);
    }

    public int day(int seed, int n) {
        return hand.spendsDay(seed, n);
    }

    public int undo() {
        return now.takeBack();
    }

    public int walker(int what) {
        if (now.row[AT] == NONE || what < AT || what > SECONDS) {
            return NONE;
        }
        return now.row[what];
    }

    public int ofCorner(int corner, int what) {
        if (!town.hasCorner(corner) || what < 0 || what > 8) {
            return OTHER;
        }
        if (what == 0) {
            return town.sightOf(corner);
        }
        if (what <= 4) {
            return town.ahead(corner, what - 1);
        }
        return town.ahead(corner, what - 5) == NONE ? NONE : town.laneAt(corner, what - 5);
    }

    public int ofTeller(int teller, int what) {
        if (!town.hasTeller(teller) || what < 0 || what > 4) {
            return NONE;
        }
        return what < 4 ? town.tellerCell(teller, what) : now.row[ASKED + teller];
    }

    public int ofTelling(int telling, int what) {
        if (!town.hasTelling(telling) || what < 0) {
            return NONE;
        }
        if (what <= COUNT) {
            return town.tellingCell(telling, what);
        }
        if (what <= 5) {
            return laws.slip(telling, what - 3);
        }
        return what < 10 ? NONE : town.turnOf(telling, what - 10);
    }

    public int leads(int telling, int slips) {
        if (!town.hasTelling(telling) || slips < 0 || slips >= WAYS) {
            return NONE;
        }
        return going.comesTo(telling, slips, NONE);
    }

    public int likely(int telling, int corner) {
        if (!town.hasTelling(telling) || corner != NONE && !town.hasCorner(corner)) {
            return NONE;
        }
        ways.weigh(telling);
        return ways.weightTo(corner, 0);
    }

    public long byAll(int tellings, int corner, boolean low) {
        if (!town.isSet(tellings, MOST_BY_ALL) || !town.hasCorner(corner)) {
            return NONE;
        }
        ways.multiply(tellings);
        return inLowestTerms(ways.products[corner], ways.total, low);
    }

    public int clash(int i) {
        if (i < NONE) {
            return NONE;
        }
        ways.listCorners();
        int found = 0;
        for (int lower = 0; lower < town.tellings; lower++) {
            for (int higher = lower + 1; higher < town.tellings; higher++) {
                if ((ways.corners[lower] & ways.corners[higher]) == 0) {
                    if (found == i) {
                        return 8 * lower + higher;
                    }
                    found++;
                }
            }
        }
        return i == NONE ? found : NONE;
    }

    public int wrong(int tellings, boolean corner) {
        if (!town.isSet(tellings, MOST_TELLINGS)) {
            return NONE;
        }
        ways.listCorners();
        int best = NONE;
        int at = NONE;
        for (int c = 0; c < town.corners; c++) {
            int set = tellings & ~ways.thatReach(c);
            if (best == NONE || isLess(set, best)) {
                best = set;
                at = c;
            }
        }
        return corner ? at : best;
    }

    private static boolean isLess(int set, int than) {
        int more = Integer.bitCount(set) - Integer.bitCount(than);
        return more < 0 || more == 0 && set < than;
    }

    public int far(int from, int to) {
        if (!town.hasCorner(from) || !town.hasCorner(to)) {
            return NONE;
        }
        visits.setPaces();
        visits.measure(from);
        return visits.secondsTo(from, to);
    }

    public long see(int tellings, int i) {
        if (i < -2 || !town.isSet(tellings, MOST_BY_ALL) || !visits.plan(tellings)) {
            return NONE;
        }
        if (i < 0) {
            return inLowestTerms(visits.least, ways.total, i == -2);
        }
        return i < visits.count ? visits.best[i] : NONE;
    }

    public int orAsk(int tellings) {
        if (!town.isSet(tellings, MOST_BY_ALL) || !visits.plan(tellings)) {
            return NONE;
        }
        return visits.soonestTeller();
    }

    public int safeSoFar(int telling, int k, boolean low) {
        if (!town.hasTelling(telling) || k < 0 || k > town.tellingCell(telling, COUNT)) {
            return NONE;
        }
        return (int) inLowestTerms(ways.safeWeight(telling, k), ALL_WEIGHTS, low);
    }

    public int howFar(int telling, int q) {
        if (!town.hasTelling(telling) || q < 1 || q > 100) {
            return NONE;
        }
        int turns = town.tellingCell(telling, COUNT);
        int k = 0;
        while (k < turns && ways.safeWeight(telling, k + 1) * 100 >= q * ALL_WEIGHTS) {
            k++;
        }
        return k;
    }

    public int lost(int telling, int corner) {
        if (!town.hasTelling(telling) || !town.hasCorner(corner)) {
            return NONE;
        }
        int turns = town.tellingCell(telling, COUNT);
        for (int i = 0; i < turns && turns >= 2; i++) {
            if (going.comesTo(telling, 0, i) == corner) {
                return i;
            }
        }
        return NONE;
    }

    public long listen(int n, int m, int a, int b, boolean low) {
        if (n < 1 || n > MOST_TURNS || m < 0 || m > MOST_TURNS || !isSlip(a) || !isSlip(b)) {
            return NONE;
        }
        long best = 0;
        for (int both = 0; both <= n && both <= m; both++) {
            for (int one = 0; one <= n - both && one <= 2 * (m - both); one++) {
                long kept = power(100 - (10 - a) * (10 - a), both)
                        * power(100 - (10 - a) * (10 - b), one)
                        * power(100 - (10 - b) * (10 - b), n - both - one);
                best = Math.max(best, kept);
            }
        }
        return inLowestTerms(best, power(100, n), low);
    }

    public int tell(int corner, int facing, int slips, int i) {
        if (!town.hasCorner(corner) || !isDirection(facing) || slips < 0 || slips >= WAYS || i < NONE) {
            return NONE;
        }
        if (town.goal == NONE || i >= MOST_TOLD) {
            return NONE;
        }
        int turns = finder.find(corner, facing, slips);
        if (i == NONE) {
            return turns;
        }
        return i < turns ? finder.chosen[i] : NONE;
    }

    public int where(int telling, boolean corners) {
        if (!town.hasTelling(telling) || going.comesTo(telling, 0, NONE) == NONE) {
            return NONE;
        }
        int times = 0;
        int bits = 0;
        int came = town.tellingCell(telling, FACING);
        for (int i = 0; i < going.come && i < MOST_COME_TO; i++) {
            int from = going.path[i] >> 2;
            int direction = going.path[i] & 3;
            if (town.hasOther(from, came + 2, direction)) {
                times++;
                bits |= 1 << from;
            }
            came = direction;
        }
        return corners ? bits : times;
    }

    public int map(int corner, int n, int directions) {
        if (!town.hasCorner(corner) || n < 1 || n > MOST_MAPPED) {
            return NONE;
        }
        if (directions < 0 || directions >= 1 << 2 * n) {
            return NONE;
        }
        int fits = 0;
        for (int more = 0; more < 4; more++) {
            int at = corner;
            for (int i = 0; i < n && at != NONE; i++) {
                at = town.ahead(at, (directions >> 2 * i) + more);
            }
            if (at != NONE) {
                fits |= 1 << more;
            }
        }
        return fits;
    }

    public int signs() {
        return town.goal == NONE ? NONE : posts.fewest();
    }

    public int whose(int telling, int corner, int slip, boolean low) {
        if (!town.hasTelling(telling) || !town.hasCorner(corner)) {
            return NONE;
        }
        if (slip != SWAPPED && slip != LEFT_OUT && slip != MIXED) {
            return NONE;
        }
        ways.weigh(telling);
        int all = ways.weightTo(corner, 0);
        if (all == 0) {
            return NONE;
        }
        return (int) inLowestTerms(ways.weightTo(corner, slip), all, low);
    }

    public int heard(int corner) {
        if (!town.hasCorner(corner)) {
            return NONE;
        }
        ways.listCorners();
        return ways.thatReach(corner);
    }

    public int image() {
        townOfImage.copyFrom(town);
        walkOfImage.copyFrom(now);
        return town.corners;
    }

    public int back() {
        town.copyFrom(townOfImage);
        now.copyFrom(walkOfImage);
        return town.corners;
    }

    public int about(int what) {
        switch (what) {
            case 0: return town.corners;
            case 1: return town.goal;
            case 2: return town.tellers;
            case 3: return town.tellings;
            case 4: return now.row[X];
            case 5: return town.texts;
            case 6: return town.ruling;
            case 7: return now.steps;
            case 8: return fed;
            default: return OTHER;
        }
    }

    private static boolean isDirection(int direction) {
        return direction >= 0 && direction < 4;
    }

    private static boolean isSlip(int often) {
        return often >= 0 && often <= MOST_SLIP;
    }

    private static int held(int value, int low, int high) {
        return Math.max(low, Math.min(high, value));
    }

    private static long power(long base, int exponent) {
        long product = 1;
        for (int i = 0; i < exponent; i++) {
            product *= base;
        }
        return product;
    }

    /** The upper or the lower one of upper by lower in lowest terms; 0 by 1, if lower is 0. */
    private static long inLowestTerms(long upper, long lower, boolean low) {
        long a = upper;
        long b = lower;
        for (int i = 0; i < 1000 && b != 0; i++) {
            long rest = a % b;
            a = b;
            b = rest;
        }
        if (lower == 0 || a == 0) {
            return low ? 1 : 0;
        }
        return low ? lower / a : upper / a;
    }

    /** What has been told: corners, streets, the goal, tellers, tellings and texts. */
    private static final class Town {
        final int[] sights;
        final int[] streets;
        final int[] lanes;
        final int[] tellerRows;
        final int[] tellingRows;
        final Text[] scripts;
        int corners;
        int goal;
        int tellers;
        int tellings;
        int texts;
        int ruling;

        Town() {
            sights = new int[MOST_CORNERS];
            streets = new int[4 * MOST_CORNERS];
            lanes = new int[4 * MOST_CORNERS];
            tellerRows = new int[TELLER_SIZE * MOST_TELLERS];
            tellingRows = new int[TELLING_SIZE * MOST_TELLINGS];
            scripts = new Text[MOST_TEXTS];
            Arrays.fill(streets, NONE);
            goal = NONE;
            ruling = NONE;
        }

        void copyFrom(Town other) {
            System.arraycopy(other.sights, 0, sights, 0, MOST_CORNERS);
            System.arraycopy(other.streets, 0, streets, 0, 4 * MOST_CORNERS);
            System.arraycopy(other.lanes, 0, lanes, 0, 4 * MOST_CORNERS);
            System.arraycopy(other.tellerRows, 0, tellerRows, 0, TELLER_SIZE * MOST_TELLERS);
            System.arraycopy(other.tellingRows, 0, tellingRows, 0, TELLING_SIZE * MOST_TELLINGS);
            for (int i = 0; i < MOST_TEXTS; i++) {
                scripts[i] = other.scripts[i];
            }
            corners = other.corners;
            goal = other.goal;
            tellers = other.tellers;
            tellings = other.tellings;
            texts = other.texts;
            ruling = other.ruling;
        }

        boolean hasCorner(int corner) {
            return corner >= 0 && corner < corners;
        }

        boolean hasTeller(int teller) {
            return teller >= 0 && teller < tellers;
        }

        boolean hasTelling(int telling) {
            return telling >= 0 && telling < tellings;
        }

        boolean isSet(int set, int most) {
            return set > 0 && set < 1 << tellings && Integer.bitCount(set) <= most;
        }

        int sightOf(int corner) {
            return corner >= 0 && corner < corners ? sights[corner] : NONE;
        }

        /** Where the street leads to, or NONE; the direction may be any number, it is taken mod 4. */
        int ahead(int corner, int direction) {
            return corner >= 0 && corner < corners ? streets[4 * corner + (direction & 3)] : NONE;
        }

        int laneAt(int corner, int direction) {
            return corner >= 0 && corner < corners ? lanes[4 * corner + (direction & 3)] : 0;
        }

        /** Whether there is a street there that counts, when lanes may be left out. */
        boolean counts(int corner, int direction, boolean lanesToo) {
            if (corner < 0 || corner >= corners) {
                return false;
            }
            int there = 4 * corner + (direction & 3);
            return streets[there] != NONE && (lanesToo || lanes[there] == 0);
        }

        /** Whether there is a street in another direction than these two. */
        boolean hasOther(int corner, int one, int two) {
            for (int d = 0; d < 4; d++) {
                if (d != (one & 3) && d != (two & 3) && ahead(corner, d) != NONE) {
                    return true;
                }
            }
            return false;
        }

        int tellerCell(int teller, int column) {
            return teller >= 0 && teller < tellers && column >= 0 && column < TELLER_SIZE
                    ? tellerRows[TELLER_SIZE * teller + column] : NONE;
        }

        int tellingCell(int telling, int column) {
            return telling >= 0 && telling < tellings && column >= 0 && column < TELLING_SIZE
                    ? tellingRows[TELLING_SIZE * telling + column] : NONE;
        }

        int turnOf(int telling, int i) {
            return i >= 0 && i < tellingCell(telling, COUNT) ? tellingCell(telling, TURNS + i) : NONE;
        }

        Text textOf(int text) {
            return text >= 0 && text < texts ? scripts[text] : null;
        }

        int addCorner(int sight) {
            if (sight < 0 || sight > MOST_SIGHT || corners >= MOST_CORNERS) {
                return NONE;
            }
            sights[corners] = sight;
            corners++;
            return corners - 1;
        }

        boolean addStreet(int from, int direction, int to, int lane) {
            if (!hasCorner(from) || !hasCorner(to) || from == to || !isDirection(direction)) {
                return false;
            }
            int there = 4 * from + direction;
            int again = 4 * to + (direction + 2 & 3);
            if (streets[there] != NONE || streets[again] != NONE) {
                return false;
            }
            streets[there] = to;
            streets[again] = from;
            lanes[there] = lane;
            lanes[again] = lane;
            return true;
        }

        boolean setGoal(int corner) {
            if (corner != NONE && !hasCorner(corner)) {
                return false;
            }
            goal = corner;
            return true;
        }

        int addTeller(int corner, int swap, int leave, int mix) {
            if (!hasCorner(corner) || !isSlip(swap) || !isSlip(leave) || !isSlip(mix)) {
                return NONE;
            }
            if (tellers >= MOST_TELLERS) {
                return NONE;
            }
            int row = TELLER_SIZE * tellers;
            tellerRows[row] = corner;
            tellerRows[row + 1] = swap;
            tellerRows[row + 2] = leave;
            tellerRows[row + 3] = mix;
            tellers++;
            return tellers - 1;
        }

        int addTelling(int teller, int facing, int first, int more) {
            if (!hasTeller(teller) || !isDirection(facing) || tellings >= MOST_TELLINGS) {
                return NONE;
            }
            int row = TELLING_SIZE * tellings;
            int count = putTurns(row + TURNS, first);
            int others = more == 0 ? 0 : putTurns(row + TURNS + 3, more);
            if (count == NONE || others == NONE || others > 0 && count < 3) {
                return NONE;
            }
            tellingRows[row] = teller;
            tellingRows[row + FACING] = facing;
            tellingRows[row + COUNT] = count + others;
            tellings++;
            return tellings - 1;
        }

        /** The one to three turns of a number: how many; NONE, if it isn't made of turns alone. */
        private int putTurns(int from, int turns) {
            if (turns <= 0 || turns >= 1000000000) {
                return NONE;
            }
            int count = turns < 1000 ? 1 : turns < 1000000 ? 2 : 3;
            int rest = turns;
            for (int i = from + count - 1; i >= from; i--) {
                if (!isTurn(rest % 1000)) {
                    return NONE;
                }
                tellingRows[i] = rest % 1000;
                rest /= 1000;
            }
            return count;
        }

        private static boolean isTurn(int turn) {
            int what = turn / 100;
            int how = turn / 10 % 10;
            int n = turn % 10;
            return what >= LEFT && what <= ON && how <= 1 && n >= 1
                    && n <= (how == 0 ? MOST_BY_NUMBER : MOST_SIGHT);
        }

        int addText(Text text) {
            if (texts >= MOST_TEXTS) {
                return NONE;
            }
            scripts[texts] = text;
            texts++;
            return texts - 1;
        }
    }

    /** A text that has been read: its laws as code, its clauses as rows. It never changes. */
    private static final class Text {
        final int[] code;
        final int[] lawEnds;
        final int[] rows;
        final int clauses;

        Text(int[] code, int[] lawEnds, int[] rows, int clauses) {
            this.code = code;
            this.lawEnds = lawEnds;
            this.rows = rows;
            this.clauses = clauses;
        }

        boolean rules(int law) {
            return law >= 0 && law < LAWS && lawEnds[2 * law] != NONE;
        }

        /** The law's sum; the values that wait stand on the stack. */
        int value(int law, int[] names, int[] stack) {
            if (!rules(law)) {
                return 0;
            }
            int top = 0;
            int end = Math.min(lawEnds[2 * law + 1], code.length);
            for (int i = lawEnds[2 * law]; i < end && top < stack.length; i++) {
                int op = code[i];
                if (op < CODE_NAME) {
                    stack[top] = op;
                    top++;
                } else if (op - CODE_NAME < names.length) {
                    stack[top] = names[op - CODE_NAME];
                    top++;
                } else if (op == LESS && top >= 1) {
                    stack[top - 1] = -stack[top - 1];
                } else if (top >= 2) {
                    top--;
                    stack[top - 1] = ofTwo(op, stack[top - 1], stack[top]);
                }
            }
            return stack[0];
        }

        private static int ofTwo(int op, long a, long b) {
            long value = 0;
            switch (op) {
                case PLUS: value = a + b; break;
                case MINUS: value = a - b; break;
                case TIMES: value = a * b; break;
                case BY: value = b == 0 ? 0 : a / b; break;
                case LEAST: value = Math.min(a, b); break;
                case MOST: value = Math.max(a, b); break;
                default: break;
            }
            return (int) Math.max(-MOST_VALUE, Math.min(MOST_VALUE, value));
        }
    }

    /** Parts the tape into tokens and reads them until their end or the first fault. */
    private static final class Reader {
        final int[] tape;
        final int[] code;
        final int[] lawEnds;
        final int[] rows;
        final int[] kinds;
        final int[] values;
        final int[] places;
        int fault;
        int faultPlace;
        private int token;
        private int kind;
        private int value;
        private int coded;
        private int clauses;
        private int names;

        Reader(int[] tape) {
            this.tape = tape;
            code = new int[MOST_BYTES];
            lawEnds = new int[2 * LAWS];
            rows = new int[CLAUSE_SIZE * MOST_CLAUSES];
            kinds = new int[MOST_BYTES + 1];
            values = new int[MOST_BYTES + 1];
            places = new int[MOST_BYTES + 1];
        }

        /** Whether the tape's first bytes are a text; else its fault and place are kept. */
        boolean reads(int bytes) {
            part(Math.min(bytes, MOST_BYTES));
            fault = 0;
            faultPlace = NONE;
            coded = 0;
            clauses = 0;
            Arrays.fill(lawEnds, NONE);
            Arrays.fill(rows, 0);
            token = NONE;
            takeToken();
            boolean fine = true;
            for (int i = 0; i <= MOST_CLAUSES && fine && kind != T_END; i++) {
                fine = readClause();
            }
            return fine;
        }

        Text asRead() {
            return new Text(Arrays.copyOf(code, coded), Arrays.copyOf(lawEnds, 2 * LAWS),
                    Arrays.copyOf(rows, CLAUSE_SIZE * clauses), clauses);
        }

        /** All tokens, and behind them the end at the length. */
        private void part(int length) {
            int count = 0;
            int next = 0;
            for (int i = 0; i < MOST_BYTES && next < length; i++) {
                int first = next;
                next = endOfToken(first, length);
                if (!isBlank(tape[first])) {
                    places[count] = first;
                    setToken(count, first, next);
                    count++;
                }
            }
            places[count] = length;
            kinds[count] = T_END;
        }

        /** Letters stay together and digits do; else a token is one byte: no sign of two can stand anywhere. */
        private int endOfToken(int first, int length) {
            int next = first + 1;
            if (isLetter(tape[first])) {
                while (next < length && isLetter(tape[next])) {
                    next++;
                }
            } else if (isDigit(tape[first])) {
                while (next < length && isDigit(tape[next])) {
                    next++;
                }
            }
            return next;
        }

        private void setToken(int i, int from, int to) {
            if (isLetter(tape[from])) {
                kinds[i] = T_WORD;
                values[i] = wordOf(from, to);
            } else if (isDigit(tape[from])) {
                kinds[i] = T_NUMBER;
                values[i] = numberOf(from, to);
            } else {
                kinds[i] = T_SIGN;
                values[i] = tape[from];
            }
        }

        private static boolean isBlank(int sign) {
            return sign == ' ' || sign == '\n';
        }

        private static boolean isLetter(int sign) {
            return sign >= 'a' && sign <= 'z' || sign >= 'A' && sign <= 'Z';
        }

        private static boolean isDigit(int sign) {
            return sign >= '0' && sign <= '9';
        }

        /** The number that stands on the tape there; all that are too great are alike. */
        private int numberOf(int from, int to) {
            int number = 0;
            for (int i = from; i < to; i++) {
                number = Math.min(MOST_NUMBER + 1, 10 * number + tape[i] - '0');
            }
            return number;
        }

        /** The number of the word that stands on the tape there; NONE, if it is none of ours. */
        private int wordOf(int from, int to) {
            int word = 0;
            int like = from;
            for (int i = 0; i < WORDS.length(); i++) {
                char sign = WORDS.charAt(i);
                if (sign == ' ') {
                    if (like == to) {
                        return word;
                    }
                    word++;
                    like = from;
                } else if (like != NONE) {
                    like = like < to && tape[like] == sign ? like + 1 : NONE;
                }
            }
            return NONE;
        }

        private boolean takeToken() {
            if (token < MOST_BYTES) {
                token++;
                kind = kinds[token];
                value = values[token];
            }
            return true;
        }

        private boolean failed(int what) {
            fault = what;
            faultPlace = places[token];
            return false;
        }

        private boolean readClause() {
            if (kind != T_WORD || value < 0 || value > W_FOLLOW) {
                return failed(1);
            }
            int word = value;
            if (word < LAWS && lawEnds[2 * word] != NONE) {
                return failed(4);
            }
            if (clauses >= MOST_CLAUSES) {
                return failed(6);
            }
            keep(0, word);
            takeToken();
            boolean fine = word < LAWS ? beginLaw(word) && readSum(0) && endLaw(word) : readDeed(word);
            if (!fine || !readSign(';')) {
                return false;
            }
            clauses++;
            return true;
        }

        private void keep(int column, int number) {
            int cell = CLAUSE_SIZE * clauses + column;
            if (cell < rows.length) {
                rows[cell] = number;
            }
        }

        private boolean readDeed(int word) {
            switch (word) {
                case W_CORNER:
                    return readNumber(1, 0, MOST_SIGHT);
                case W_STREET:
                case W_LANE:
                    return readCorner(1) && readNumber(2, 0, 3) && readWord(W_TO) && readCorner(3);
                case W_GOAL:
                case W_TELLER:
                    return readCorner(1);
                case W_TELLING:
                    return readNumber(1, 0, MOST_TELLERS - 1) && readFacing() && readSign(':') && readTurns();
                case W_START:
                    return readCorner(1) && readFacing();
                case W_WALK:
                    return readNumber(1, 1, MOST_WALKED);
                case W_TURN:
                    return readSideTo(1);
                case W_ASK:
                    return readNumber(1, 0, MOST_TELLERS - 1);
                default:
                    return readNumber(1, 0, MOST_TELLINGS - 1);
            }
        }

        private boolean readNumber(int column, int low, int high) {
            if (kind != T_NUMBER) {
                return failed(1);
            }
            if (value < low || value > high) {
                return failed(2);
            }
            keep(column, value);
            return takeToken();
        }

        private boolean readCorner(int column) {
            return readNumber(column, 0, MOST_CORNERS - 1);
        }

        private boolean readFacing() {
            return readWord(W_FACING) && readNumber(2, 0, 3);
        }

        private boolean readWord(int word) {
            if (kind != T_WORD || value != word) {
                return failed(1);
            }
            return takeToken();
        }

        private boolean readSign(int sign) {
            if (!isSign(sign)) {
                return failed(1);
            }
            return takeToken();
        }

        private boolean isSign(int sign) {
            return kind == T_SIGN && value == sign;
        }

        /** What a walker is turned to: left, right or back. */
        private boolean readSideTo(int column) {
            if (kind != T_WORD || value < W_LEFT || value > W_BACK || value == W_ON) {
                return failed(1);
            }
            keep(column, value == W_BACK ? BACK : value - W_LEFT + LEFT);
            return takeToken();
        }

        private boolean readTurns() {
            int first = 0;
            int more = 0;
            for (int i = 0; i <= MOST_TURNS; i++) {
                int turn = readTurn(i);
                if (turn == NONE) {
                    return false;
                }
                first = i < 3 ? 1000 * first + turn : first;
                more = i < 3 ? 0 : 1000 * more + turn;
                if (!isSign(',')) {
                    break;
                }
                takeToken();
            }
            keep(3, first);
            keep(4, more);
            return true;
        }

        /** The i-th turn of a telling, as it is told by hand; NONE, if it has a fault. */
        private int readTurn(int i) {
            boolean bySight = kind == T_WORD && value == W_AT;
            if (!bySight && kind != T_NUMBER) {
                failed(1);
                return NONE;
            }
            if (!bySight && (value < 1 || value > MOST_BY_NUMBER)) {
                failed(2);
                return NONE;
            }
            if (i >= MOST_TURNS) {
                failed(7);
                return NONE;
            }
            if (bySight) {
                takeToken();
            }
            int n = value;
            // Column 3 holds the number only until the turns are put there.
            if (!readNumber(3, 1, MOST_SIGHT)) {
                return NONE;
            }
            if (kind != T_WORD || value < W_LEFT || value > W_ON) {
                failed(1);
                return NONE;
            }
            int turn = 100 * (value - W_LEFT + LEFT) + (bySight ? 10 : 0) + n;
            takeToken();
            return turn;
        }

        private boolean beginLaw(int law) {
            names = law < PACE ? NAMES_OF_SLIPS : law == PACE ? NAMES_OF_PACE : NAMES_OF_ASKS;
            lawEnds[2 * law] = coded;
            return true;
        }

        private boolean endLaw(int law) {
            lawEnds[2 * law + 1] = coded;
            return true;
        }

        private boolean emit(int op) {
            if (coded < code.length) {
                code[coded] = op;
                coded++;
            }
            return true;
        }

        private boolean readSum(int depth) {
            boolean fine = readProduct(depth);
            for (int i = 0; i < MOST_BYTES && fine && (isSign('+') || isSign('-')); i++) {
                int op = value == '+' ? PLUS : MINUS;
                takeToken();
                fine = readProduct(depth) && emit(op);
            }
            return fine;
        }

        private boolean readProduct(int depth) {
            boolean fine = readOne(depth);
            for (int i = 0; i < MOST_BYTES && fine && (isSign('*') || isSign('/')); i++) {
                int op = value == '*' ? TIMES : BY;
                takeToken();
                fine = readOne(depth) && emit(op);
            }
            return fine;
        }

        private boolean readOne(int depth) {
            if (kind == T_NUMBER) {
                return value > MOST_NUMBER ? failed(2) : emit(value) && takeToken();
            }
            if (kind == T_WORD && value >= W_WHO) {
                int name = value - W_WHO;
                return (names >> name & 1) == 0 ? failed(5) : emit(CODE_NAME + name) && takeToken();
            }
            boolean ofTwo = kind == T_WORD && (value == W_LEAST || value == W_MOST);
            if (!ofTwo && !isSign('(') && !isSign('-')) {
                return failed(1);
            }
            if (depth >= MOST_OPEN) {
                return failed(3);
            }
            int opener = value;
            takeToken();
            if (ofTwo) {
                return readWord(W_OF) && readSum(depth + 1) && readSign(',') && readSum(depth + 1)
                        && readWord(W_END) && emit(opener == W_LEAST ? LEAST : MOST);
            }
            if (opener == '(') {
                return readSum(depth + 1) && readSign(')');
            }
            return readOne(depth + 1) && emit(LESS);
        }
    }

    /** The walker, how often each teller was asked, X, and the steps that can be taken back. */
    private static final class Walk {
        final int[] row;
        final int[] kept;
        int steps;
        private int free;

        Walk() {
            row = new int[STEP_SIZE];
            kept = new int[STEP_SIZE * MOST_STEPS];
            row[AT] = NONE;
            row[X] = FIRST_X;
        }

        void copyFrom(Walk other) {
            System.arraycopy(other.row, 0, row, 0, STEP_SIZE);
            System.arraycopy(other.kept, 0, kept, 0, STEP_SIZE * MOST_STEPS);
            steps = other.steps;
            free = other.free;
        }

        /** Keeps all as it is ahead of a step; the oldest of thirty gives way. */
        void keepStep() {
            System.arraycopy(row, 0, kept, STEP_SIZE * free, STEP_SIZE);
            free = (free + 1) % MOST_STEPS;
            steps = Math.min(MOST_STEPS, steps + 1);
        }

        int takeBack() {
            if (steps == 0) {
                return NONE;
            }
            free = (free + MOST_STEPS - 1) % MOST_STEPS;
            steps--;
            System.arraycopy(kept, STEP_SIZE * free, row, 0, STEP_SIZE);
            return steps;
        }
    }

    /** What the text that rules says, or what holds without it. */
    private static final class Laws {
        private final Town town;
        private final Walk walk;
        private final int[] names;
        private final int[] stack;

        Laws(Town town, Walk walk) {
            this.town = town;
            this.walk = walk;
            names = new int[NAMES];
            stack = new int[STACK_SIZE];
        }

        /** How often out of ten a telling slips: law 0 swaps, 1 leaves, 2 mixes. */
        int slip(int telling, int law) {
            int teller = town.tellingCell(telling, 0);
            int told = town.tellerCell(teller, 1 + law);
            Text text = town.textOf(town.ruling);
            if (text == null || !text.rules(law)) {
                return told;
            }
            nameTeller(teller);
            names[N_TURNS] = town.tellingCell(telling, COUNT);
            names[N_FACE] = town.tellingCell(telling, FACING);
            names[N_TOLD] = told;
            return held(text.value(law, names, stack), 0, MOST_SLIP);
        }

        int pace(int corner, int direction) {
            Text text = town.textOf(town.ruling);
            if (text == null || !text.rules(PACE)) {
                return 10;
            }
            names[N_NARROW] = town.laneAt(corner, direction);
            names[N_SIGHT] = town.sightOf(town.ahead(corner, direction));
            names[N_WAY] = direction;
            return held(text.value(PACE, names, stack), 1, 99);
        }

        int asking(int teller) {
            Text text = town.textOf(town.ruling);
            if (text == null || !text.rules(ASKS)) {
                return 20;
            }
            nameTeller(teller);
            return held(text.value(ASKS, names, stack), 0, 99);
        }

        private void nameTeller(int teller) {
            names[N_WHO] = teller;
            names[N_HERE] = town.tellerCell(teller, 0);
            names[N_ASKED] = town.hasTeller(teller) ? walk.row[ASKED + teller] : 0;
        }
    }

    /** A telling as it is gone; the path has 4 times the corner and the direction of each street. */
    private static final class Going {
        private final Town town;
        final int[] path;
        int at;
        int facing;
        int come;

        Going(Town town) {
            this.town = town;
            path = new int[MOST_COME_TO];
        }

        void setOut(int corner, int direction) {
            at = corner;
            facing = direction;
            come = 0;
        }

        void setOutAsTold(int telling) {
            setOut(town.tellerCell(town.tellingCell(telling, 0), 0), town.tellingCell(telling, FACING));
        }

        /** The corner that a telling, but for one turn (NONE: none), leads to from its teller; or NONE. */
        int comesTo(int telling, int slips, int but) {
            setOutAsTold(telling);
            return goesAll(telling, slips, but) ? at : NONE;
        }

        boolean goesAll(int telling, int slips, int but) {
            int turns = town.tellingCell(telling, COUNT);
            int last = ON;
            for (int i = 0; i < turns; i++) {
                if (i != but) {
                    int turn = meant(town.turnOf(telling, i), slips);
                    if (!takes(turn, slips)) {
                        return false;
                    }
                    last = turn / 100;
                }
            }
            return last == ON || goesOn();
        }

        boolean goesFirst(int telling, int slips, int turns) {
            for (int i = 0; i < turns; i++) {
                if (!takes(meant(town.turnOf(telling, i), slips), slips)) {
                    return false;
                }
            }
            return true;
        }

        /** A turn as it was meant, when left and right are swapped or sights mixed. */
        static int meant(int turn, int slips) {
            int what = turn / 100;
            int how = turn / 10 % 10;
            int n = turn % 10;
            if ((slips & SWAPPED) != 0 && what != ON) {
                what = LEFT + RIGHT - what;
            }
            if ((slips & MIXED) != 0 && how == 1 && n <= 2) {
                n = 3 - n;
            }
            return 100 * what + 10 * how + n;
        }

        boolean goesOn() {
            int to = town.ahead(at, facing);
            if (to == NONE || come >= path.length) {
                return false;
            }
            path[come] = 4 * at + facing;
            come++;
            at = to;
            return true;
        }

        /** One turn, as it stands here; of the slips only lanes left out matter yet. */
        boolean takes(int turn, int slips) {
            int what = turn / 100;
            boolean bySight = turn / 10 % 10 == 1;
            int n = turn % 10;
            int due = bySight ? 1 : n;
            int side = sideOf(facing, what);
            boolean lanesToo = (slips & LEFT_OUT) == 0;
            int met = 0;
            for (int i = 0; i <= MOST_COME_TO && met < due; i++) {
                if (!goesOn()) {
                    return false;
                }
                if (bySight ? town.sightOf(at) == n : what == ON || town.counts(at, side, lanesToo)) {
                    met++;
                }
            }
            if (what != ON && !town.counts(at, side, lanesToo)) {
                return false;
            }
            facing = side;
            return true;
        }

        static int sideOf(int facing, int what) {
            return what == LEFT ? facing + 3 & 3 : what == RIGHT ? facing + 1 & 3 : facing;
        }
    }

    /** What the walker does, by hand, by a text and by draws. */
    private static final class Walker {
        private final Town town;
        private final Walk walk;
        private final Laws laws;
        private final Going going;

        Walker(Town town, Walk walk, Laws laws, Going going) {
            this.town = town;
            this.walk = walk;
            this.laws = laws;
            this.going = going;
        }

        private boolean isThere() {
            return walk.row[AT] != NONE;
        }

        boolean begins(int corner, int facing) {
            if (!town.hasCorner(corner) || !isDirection(facing)) {
                return false;
            }
            walk.keepStep();
            place(corner, facing, 0);
            return true;
        }

        private void place(int corner, int facing, int seconds) {
            walk.row[AT] = corner;
            walk.row[FACING] = facing;
            walk.row[SECONDS] = seconds;
        }

        /** Whether so many streets lie ahead, one behind the other. */
        boolean canGo(int n) {
            int at = walk.row[AT];
            for (int i = 0; i < n && at != NONE; i++) {
                at = town.ahead(at, walk.row[FACING]);
            }
            return at != NONE;
        }

        /** As many of n streets as there are, each a step: whether all could be gone. */
        boolean goes(int n) {
            for (int i = 0; i < n; i++) {
                if (!canGo(1)) {
                    return false;
                }
                walk.keepStep();
                goAhead();
            }
            return true;
        }

        private void goAhead() {
            int at = walk.row[AT];
            int facing = walk.row[FACING];
            place(town.ahead(at, facing), facing, walk.row[SECONDS] + laws.pace(at, facing));
        }

        int turns(int side) {
            if (!isThere() || side < LEFT || side > BACK) {
                return NONE;
            }
            walk.keepStep();
            faceTo(side);
            return walk.row[FACING];
        }

        private void faceTo(int side) {
            int facing = walk.row[FACING];
            walk.row[FACING] = side == BACK ? facing + 2 & 3 : Going.sideOf(facing, side);
        }

        int asks(int teller) {
            if (!isThere() || !town.hasTeller(teller) || town.tellerCell(teller, 0) != walk.row[AT]) {
                return NONE;
            }
            walk.keepStep();
            hear(teller);
            return walk.row[ASKED + teller];
        }

        private void hear(int teller) {
            walk.row[SECONDS] += laws.asking(teller);
            walk.row[ASKED + teller]++;
        }

        int follows(int telling) {
            if (!isThere() || !town.hasTelling(telling)) {
                return NONE;
            }
            walk.keepStep();
            going.setOut(walk.row[AT], walk.row[FACING]);
            boolean all = going.goesAll(telling, 0, NONE);
            int seconds = walk.row[SECONDS];
            for (int i = 0; i < going.come && i < MOST_COME_TO; i++) {
                seconds += laws.pace(going.path[i] >> 2, going.path[i] & 3);
            }
            place(going.at, going.facing, seconds);
            return all ? 1 : 0;
        }

        int spendsDay(int seed, int n) {
            if (seed < 0 || seed > 9999 || n < 1 || n > 30 || town.corners == 0) {
                return NONE;
            }
            walk.keepStep();
            int x = 4 * seed + FIRST_X;
            place(x % town.corners, x % 4, 0);
            x = anew(x);
            for (int i = 0; i < n; i++) {
                drawn(x % 4);
                x = anew(x);
            }
            walk.row[X] = x;
            return walk.row[SECONDS];
        }

        private static int anew(int x) {
            return (x * 229 + 127) % 30181;
        }

        private void drawn(int what) {
            if (what == 0) {
                faceTo(RIGHT);
            } else if (what == 1) {
                hearLowest();
            } else if (canGo(1)) {
                goAhead();
            } else {
                faceTo(LEFT);
            }
        }

        private void hearLowest() {
            for (int teller = 0; teller < town.tellers; teller++) {
                if (town.tellerCell(teller, 0) == walk.row[AT]) {
                    hear(teller);
                    return;
                }
            }
        }

        /** The number of the first clause that can't be; NONE, if all is done. */
        int plays(Text script) {
            for (int i = 0; i < script.clauses; i++) {
                if (!does(script.rows, CLAUSE_SIZE * i)) {
                    return i;
                }
            }
            return NONE;
        }

        private boolean does(int[] rows, int from) {
            if (from < 0 || from + CLAUSE_SIZE > rows.length) {
                return false;
            }
            int word = rows[from];
            int a = rows[from + 1];
            int b = rows[from + 2];
            int c = rows[from + 3];
            switch (word) {
                case W_CORNER: return town.addCorner(a) != NONE;
                case W_STREET: return town.addStreet(a, b, c, 0);
                case W_LANE: return town.addStreet(a, b, c, 1);
                case W_GOAL: return town.setGoal(a);
                case W_TELLER: return town.addTeller(a, 0, 0, 0) != NONE;
                case W_TELLING: return town.addTelling(a, b, c, rows[from + 4]) != NONE;
                case W_START: return begins(a, b);
                case W_WALK: return goes(a);
                case W_TURN: return turns(a) != NONE;
                case W_ASK: return asks(a) != NONE;
                case W_FOLLOW: return follows(a) != NONE;
                default: return true;
            }
        }
    }

    /** The eight ways in which a telling can be meant, and what several say together. */
    private static final class Ways {
        private final Town town;
        private final Laws laws;
        private final Going going;
        private final int[] weights;
        private final int[] ends;
        final int[] corners;
        final long[] products;
        long total;

        Ways(Town town, Laws laws, Going going) {
            this.town = town;
            this.laws = laws;
            this.going = going;
            weights = new int[WAYS];
            ends = new int[WAYS];
            corners = new int[MOST_TELLINGS];
            products = new long[MOST_CORNERS];
        }

        private void setWeights(int telling) {
            int swaps = laws.slip(telling, 0);
            int leaves = laws.slip(telling, 1);
            int mixes = laws.slip(telling, 2);
            for (int way = 0; way < WAYS; way++) {
                weights[way] = ((way & SWAPPED) == 0 ? 10 - swaps : swaps)
                        * ((way & LEFT_OUT) == 0 ? 10 - leaves : leaves)
                        * ((way & MIXED) == 0 ? 10 - mixes : mixes);
            }
        }

        /** The weight of each way, and where it leads to (NONE too, if it has no weight). */
        void weigh(int telling) {
            setWeights(telling);
            for (int way = 0; way < WAYS; way++) {
                going.setOutAsTold(telling);
                ends[way] = weights[way] != 0 && going.goesAll(telling, way, NONE) ? going.at : NONE;
            }
        }

        /** The weight of the ways with these slips that lead to a corner (NONE: to any). */
        int weightTo(int corner, int slips) {
            int sum = 0;
            for (int way = 0; way < WAYS; way++) {
                if (ends[way] != NONE && (corner == NONE || ends[way] == corner) && (way & slips) == slips) {
                    sum += weights[way];
                }
            }
            return sum;
        }

        /** For each corner the product of its weights by all tellings of a set, and their sum. */
        void multiply(int set) {
            Arrays.fill(products, 0);
            for (int c = 0; c < town.corners; c++) {
                products[c] = 1;
            }
            for (int telling = 0; telling < town.tellings; telling++) {
                if ((set >> telling & 1) != 0) {
                    weigh(telling);
                    for (int c = 0; c < town.corners; c++) {
                        products[c] *= weightTo(c, 0);
                    }
                }
            }
            total = 0;
            for (int c = 0; c < town.corners; c++) {
                total += products[c];
            }
        }

        /** For each telling the corners (bits) that it can lead to. */
        void listCorners() {
            for (int telling = 0; telling < town.tellings; telling++) {
                weigh(telling);
                corners[telling] = 0;
                for (int way = 0; way < WAYS; way++) {
                    if (ends[way] != NONE) {
                        corners[telling] |= 1 << ends[way];
                    }
                }
            }
        }

        /** Of the tellings as listed those (bits) that can lead to a corner. */
        int thatReach(int corner) {
            int set = 0;
            for (int telling = 0; telling < town.tellings; telling++) {
                set |= (corners[telling] >> corner & 1) << telling;
            }
            return set;
        }

        /** The weight of the ways by which the first k turns come to where they come to as said. */
        int safeWeight(int telling, int k) {
            going.setOutAsTold(telling);
            if (!going.goesFirst(telling, 0, k)) {
                return 0;
            }
            int at = going.at;
            int facing = going.facing;
            setWeights(telling);
            int sum = 0;
            for (int way = 0; way < WAYS; way++) {
                if (weights[way] != 0) {
                    going.setOutAsTold(telling);
                    if (going.goesFirst(telling, way, k) && going.at == at && going.facing == facing) {
                        sum += weights[way];
                    }
                }
            }
            return sum;
        }
    }

    /** How far corners are, in which order to see them, and whether to ask instead. */
    private static final class Visits {
        private final Town town;
        private final Walk walk;
        private final Laws laws;
        private final Ways ways;
        private final int[] paces;
        private final int[] seconds;
        private final int[] places;
        private final int[] order;
        final int[] best;
        int count;
        long least;

        Visits(Town town, Walk walk, Laws laws, Ways ways) {
            this.town = town;
            this.walk = walk;
            this.laws = laws;
            this.ways = ways;
            paces = new int[4 * MOST_CORNERS];
            seconds = new int[MOST_CORNERS * MOST_CORNERS];
            places = new int[MOST_SEEN];
            order = new int[MOST_SEEN];
            best = new int[MOST_SEEN];
        }

        void setPaces() {
            for (int i = 0; i < 4 * town.corners; i++) {
                paces[i] = town.ahead(i >> 2, i & 3) == NONE ? 0 : laws.pace(i >> 2, i & 3);
            }
        }

        int secondsTo(int from, int to) {
            return town.hasCorner(from) && town.hasCorner(to) ? seconds[MOST_CORNERS * from + to] : NONE;
        }

        /** The fewest seconds from one corner to each, nearest first. */
        void measure(int from) {
            if (!town.hasCorner(from)) {
                return;
            }
            for (int c = 0; c < town.corners; c++) {
                seconds[MOST_CORNERS * from + c] = c == from ? 0 : NONE;
            }
            int done = 0;
            for (int i = 0; i < town.corners; i++) {
                int near = nearest(from, done);
                if (near == NONE) {
                    return;
                }
                done |= 1 << near;
                lookAround(from, near);
            }
        }

        private int nearest(int from, int done) {
            int near = NONE;
            for (int c = 0; c < town.corners; c++) {
                int s = secondsTo(from, c);
                if ((done >> c & 1) == 0 && s != NONE && (near == NONE || s < secondsTo(from, near))) {
                    near = c;
                }
            }
            return near;
        }

        private void lookAround(int from, int corner) {
            for (int d = 0; d < 4; d++) {
                int to = town.ahead(corner, d);
                if (to != NONE) {
                    int s = secondsTo(from, corner) + paces[4 * corner + d];
                    int known = secondsTo(from, to);
                    if (known == NONE || s < known) {
                        seconds[MOST_CORNERS * from + to] = s;
                    }
                }
            }
        }

        /** The best order in which to see where the goal may be, from where the walker is. */
        boolean plan(int tellings) {
            int here = walk.row[AT];
            if (here == NONE) {
                return false;
            }
            ways.multiply(tellings);
            if (!listPlaces()) {
                return false;
            }
            setPaces();
            measure(here);
            for (int i = 0; i < count; i++) {
                if (secondsTo(here, places[i]) == NONE) {
                    return false;
                }
                measure(places[i]);
            }
            least = NONE;
            tryOrders(0, 0, here, 0, 0);
            return least != NONE;
        }

        private boolean listPlaces() {
            count = 0;
            for (int c = 0; c < town.corners; c++) {
                if (ways.products[c] > 0) {
                    if (count >= MOST_SEEN) {
                        return false;
                    }
                    places[count] = c;
                    count++;
                }
            }
            return count > 0;
        }

        /** Orders come lowest first, so that of like ones the first stays. */
        private void tryOrders(int depth, int used, int at, long spent, long sum) {
            if (depth >= count) {
                least = sum;
                System.arraycopy(order, 0, best, 0, count);
                return;
            }
            for (int i = 0; i < count && depth < MOST_SEEN; i++) {
                int leg = secondsTo(at, places[i]);
                if ((used >> i & 1) == 0 && leg != NONE) {
                    long then = sum + ways.products[places[i]] * (spent + leg);
                    if (least == NONE || then < least) {
                        order[depth] = places[i];
                        tryOrders(depth + 1, used | 1 << i, places[i], spent + leg, then);
                    }
                }
            }
        }

        /** The teller by whom one is soonest at the goal; NONE, if as planned takes no longer. */
        int soonestTeller() {
            int soonest = NONE;
            long shortest = least;
            for (int teller = 0; teller < town.tellers; teller++) {
                int leg = secondsTo(walk.row[AT], town.tellerCell(teller, 0));
                if (leg != NONE) {
                    long sum = (leg + laws.asking(teller)) * ways.total + sumFrom(town.tellerCell(teller, 0));
                    if (sum < shortest) {
                        shortest = sum;
                        soonest = teller;
                    }
                }
            }
            return soonest;
        }

        private long sumFrom(int corner) {
            measure(corner);
            long sum = 0;
            for (int i = 0; i < count; i++) {
                sum += ways.products[places[i]] * secondsTo(corner, places[i]);
            }
            return sum;
        }
    }

    /** The shortest telling to the goal. A state is 64 times the corners come to, 4 times the corner, the facing. */
    private static final class Finder {
        private static final int TURN_KINDS = 27;
        private static final int UNKNOWN = -2;

        private final Town town;
        private final Going going;
        // What a turn does in each of 64 states, with lanes and without: looked up far more often than gone.
        private final int[] known;
        private final int[] states;
        final int[] chosen;

        Finder(Town town, Going going) {
            this.town = town;
            this.going = going;
            known = new int[2 * 4 * MOST_CORNERS * TURN_KINDS];
            states = new int[(MOST_TOLD + 1) * WAYS];
            chosen = new int[MOST_TOLD];
        }

        /** How many turns it has (they are in chosen), or NONE. */
        int find(int corner, int facing, int slips) {
            Arrays.fill(known, UNKNOWN);
            for (int way = 0; way < WAYS; way++) {
                states[way] = 4 * corner + facing;
            }
            for (int length = 1; length <= MOST_TOLD; length++) {
                if (tries(0, length, slips)) {
                    return length;
                }
            }
            return NONE;
        }

        private boolean tries(int level, int length, int slips) {
            boolean last = level + 1 >= length;
            for (int kind = 0; kind < TURN_KINDS && level < MOST_TOLD; kind++) {
                int turn = turnOfKind(kind);
                chosen[level] = turn;
                if (allGo(level, turn, slips, last) && (last || tries(level + 1, length, slips))) {
                    return true;
                }
            }
            return false;
        }

        private static int turnOfKind(int kind) {
            int n = kind % 9 + 1;
            return 100 * (kind / 9 + 1) + (n <= MOST_BY_NUMBER ? n : 10 + n - MOST_BY_NUMBER);
        }

        private static int kindOfTurn(int turn) {
            int n = turn % 10 + (turn / 10 % 10 == 0 ? 0 : MOST_BY_NUMBER);
            return 9 * (turn / 100 - 1) + n - 1;
        }

        /** Whether the turn can be gone with any of the slips together, and, as the last, to the goal. */
        private boolean allGo(int level, int turn, int slips, boolean last) {
            for (int way = 0; way < WAYS; way++) {
                if ((way & ~slips) == 0) {
                    int state = after(states[WAYS * level + way], Going.meant(turn, way), way);
                    if (state == NONE || last && !endsAtGoal(state, turn / 100 != ON)) {
                        return false;
                    }
                    states[WAYS * level + WAYS + way] = state;
                }
            }
            return true;
        }

        /** The state behind a turn, or NONE; whether lanes are left out is all that matters of the way. */
        private int after(int state, int turn, int way) {
            int place = state & 63;
            int lanes = way & LEFT_OUT;
            int cell = (32 * lanes + place) * TURN_KINDS + kindOfTurn(turn);
            if (cell < 0 || cell >= known.length) {
                return NONE;
            }
            if (known[cell] == UNKNOWN) {
                going.setOut(place >> 2, place & 3);
                known[cell] = going.takes(turn, lanes) ? 64 * going.come + 4 * going.at + going.facing : NONE;
            }
            if (known[cell] == NONE || (state >> 6) + (known[cell] >> 6) > MOST_COME_TO) {
                return NONE;
            }
            return state - place + known[cell];
        }

        private boolean endsAtGoal(int state, boolean onceMore) {
            int corner = state >> 2 & 15;
            if (!onceMore) {
                return corner == town.goal;
            }
            return state >> 6 < MOST_COME_TO && town.ahead(corner, state & 3) == town.goal;
        }
    }

    /** Signs at corners. A state is 4 times the corner and the facing. */
    private static final class Posts {
        private final Town town;
        private final int[] streetsToGoal;
        private final int[] shown;
        private final int[] onward;
        private int linked;
        // States (bits) from which one comes to the goal by the signs looked at.
        private long good;

        Posts(Town town) {
            this.town = town;
            streetsToGoal = new int[MOST_CORNERS];
            shown = new int[MOST_CORNERS];
            onward = new int[4 * MOST_CORNERS];
        }

        /** The lowest of the smallest sets of corners, or NONE. */
        int fewest() {
            if (!town.hasCorner(town.goal)) {
                return NONE;
            }
            countStreets();
            setOnward();
            int most = Math.min(MOST_SIGNS, Integer.bitCount(linked) - 1);
            for (int size = 0; size <= most; size++) {
                int set = firstThatServes(size);
                if (set != NONE) {
                    return set;
                }
            }
            return NONE;
        }

        /** The lowest set of so many corners that serves, or NONE. */
        private int firstThatServes(int size) {
            int may = linked & ~(1 << town.goal);
            int set = (1 << size) - 1;
            for (int i = 0; i < 65536 && set < 1 << town.corners; i++) {
                if ((set & ~may) == 0 && allCome(set)) {
                    return set;
                }
                if (set == 0) {
                    return NONE;
                }
                set = nextOfSize(set);
            }
            return NONE;
        }

        /** The next higher number with as many bits. */
        private static int nextOfSize(int set) {
            int lowest = set & -set;
            int carried = set + lowest;
            int ones = Integer.bitCount(set & ~carried) - 1;
            return carried | (1 << ones) - 1;
        }

        /** How many streets each corner has to the goal (NONE: no way), ring by ring around it. */
        private void countStreets() {
            Arrays.fill(streetsToGoal, NONE);
            streetsToGoal[town.goal] = 0;
            linked = 1 << town.goal;
            for (int ring = 1; ring < MOST_CORNERS; ring++) {
                for (int c = 0; c < town.corners; c++) {
                    int direction = streetsToGoal[c] == NONE ? towards(c, ring - 1) : NONE;
                    if (direction != NONE) {
                        streetsToGoal[c] = ring;
                        shown[c] = 4 * town.ahead(c, direction) + direction;
                        linked |= 1 << c;
                    }
                }
            }
        }

        /** The lowest direction in which a corner of that ring lies, or NONE. */
        private int towards(int corner, int ring) {
            for (int d = 0; d < 4; d++) {
                int to = town.ahead(corner, d);
                if (to != NONE && streetsToGoal[to] == ring) {
                    return d;
                }
            }
            return NONE;
        }

        /** Where one goes without a sign: on, else right, else left, else back. */
        private void setOnward() {
            for (int state = 0; state < 4 * town.corners; state++) {
                int corner = state >> 2;
                int direction = state & 3;
                if (town.ahead(corner, direction) == NONE) {
                    direction = Going.sideOf(state & 3, RIGHT);
                }
                if (town.ahead(corner, direction) == NONE) {
                    direction = Going.sideOf(state & 3, LEFT);
                }
                if (town.ahead(corner, direction) == NONE) {
                    direction = direction + 3 & 3;
                }
                int to = town.ahead(corner, direction);
                onward[state] = to == NONE ? state : 4 * to + direction;
            }
        }

        private boolean allCome(int set) {
            good = 0;
            for (int state = 0; state < 4 * town.corners; state++) {
                if ((linked >> (state >> 2) & 1) != 0 && !comes(state, set)) {
                    return false;
                }
            }
            return true;
        }

        private boolean comes(int from, int set) {
            long passed = 0;
            int state = from;
            for (int i = 0; i <= 4 * MOST_CORNERS; i++) {
                int corner = state >> 2;
                if (corner == town.goal || (good >> state & 1) != 0) {
                    good |= passed;
                    return true;
                }
                if ((passed >> state & 1) != 0) {
                    return false;
                }
                passed |= 1L << state;
                state = (set >> corner & 1) != 0 ? shown[corner] : onward[state];
            }
            return false;
        }
    }
}
