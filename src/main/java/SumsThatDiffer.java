import java.util.Arrays;

/** Counties whose roads change a sum, told in a text; ../shared/DOC.md says what each call answers. */
public final class SumsThatDiffer {
    public static final int BAD = -1, NO = -2, FULL = -3, NONE = -4;

    private static final String FIRST_TEXT =
            "n4;r0,0,1,31,9;r0,1,2,18,22;r1,2,3,25,15;r2,3,0,20,20;r0,0,2,24,16;s0,50;j0;j1;j4;";

    private static final int MOST_LETTERS = 200;
    private static final int FEWEST_PLACES = 2;
    private static final int MOST_PLACES = 6;
    private static final int PLACES_UNTOLD = 4;
    private static final int MOST_ROADS = 9;
    private static final int MOST_STEPS = 9;
    private static final int SUM_UNTOLD = 50;
    private static final int MOST_SUM = 999;

    private static final int BRIDGE = 1;
    private static final int TOLL = 2;
    private static final int DOUBLE = 3;
    private static final int MOST_FIGURE = 40;
    private static final int FIGURE_OF_NO_CHANGE = 20;

    private static final int MOST_UNDOABLE = 8;
    private static final int MOST_KEPT = 2;
    private static final int MOST_TOLD = 6;
    private static final int LONGEST_SEARCH = 5;
    private static final int LONGEST_RING = 6;

    private static final int FIRST_HEIGHT = 100;
    private static final int HEIGHT_SHIFT = 1000;
    private static final int BOOKS_SHIFT = 5000;
    private static final int TENTHS = 10;
    private static final int LAST_YEAR = 9999;
    private static final int LONGEST_YEAR = 60;

    private final Letters letters = new Letters();
    private final Reading reading = new Reading();
    private final County county = new County();
    private final Pile undoable = new Pile(MOST_UNDOABLE);
    private final Pile kept = new Pile(MOST_KEPT);
    private final Walker walker = new Walker(county);
    private final Climb climb = new Climb(county);
    private final Heights heights = new Heights(county);
    private final Rings rings = new Rings(county);
    private final Told told = new Told(county);
    private final Weather sky = new Weather(county);

    public SumsThatDiffer() {
        for (int i = 0; i < FIRST_TEXT.length(); i++) {
            letters.append(FIRST_TEXT.charAt(i));
        }
        layLetters();
        letters.clear();
    }

    // ---- counties

    public int write(int letter) {
        if (letter < 32 || letter > 126) {
            return BAD;
        }
        return letters.append((char) letter) ? letters.length() : FULL;
    }

    public int wipe() {
        int length = letters.length();
        letters.clear();
        return length;
    }

    public int fault() {
        return reading.firstFault(letters);
    }

    public int lay() {
        return layLetters() ? county.roads() : NO;
    }

    public int road(int r, int what) {
        if (!county.hasRoad(r)) {
            return BAD;
        }
        switch (what) {
            case 0: return county.kindOf(r);
            case 1: return county.startOf(r);
            case 2: return county.endOf(r);
            case 3: return county.now.f[r];
            case 4: return county.now.g[r];
            case 5: return county.now.isShut(r) ? 1 : 0;
            default: return BAD;
        }
    }

    public int at(int what) {
        switch (what) {
            case 0: return county.now.place;
            case 1: return county.now.sum;
            default: return BAD;
        }
    }

    // ---- crossings

    public int cross(int r) {
        if (!county.hasRoad(r)) {
            return BAD;
        }
        walker.startNow();
        if (!walker.goBy(r)) {
            return NO;
        }
        undoable.push(county.now);
        county.now.place = walker.place;
        county.now.sum = walker.sum;
        county.now.crossings++;
        return county.now.sum;
    }

    public int mend(int r, int f, int g) {
        if (!county.hasRoad(r) || !isFigure(f) || !isFigure(g)) {
            return BAD;
        }
        undoable.push(county.now);
        int before = county.now.f[r];
        county.now.f[r] = f;
        county.now.g[r] = g;
        return before;
    }

    public int shut(int r, boolean shut) {
        if (!county.hasRoad(r)) {
            return BAD;
        }
        if (county.now.isShut(r) == shut) {
            return NO;
        }
        undoable.push(county.now);
        county.now.turn(r);
        return Integer.bitCount(county.now.shutBits);
    }

    public int undo() {
        return undoable.popInto(county.now) ? undoable.size() : NO;
    }

    // ---- journeys

    public int journey(int k, int what) {
        if (k < 0 || k > county.steps() || !isEither(what)) {
            return BAD;
        }
        if (!walker.followPlan(k)) {
            return NONE;
        }
        return what == 0 ? walker.place : walker.sum;
    }

    public int most(int n, int what) {
        if (n < 0 || n > LONGEST_SEARCH || !isEither(what)) {
            return BAD;
        }
        climb.findMost(n);
        return what == 0 ? climb.highest : climb.crossings;
    }

    public int round(int k) {
        if (k < 0 || k > LONGEST_SEARCH) {
            return BAD;
        }
        climb.findRound();
        if (climb.crossings == 0 || k > climb.crossings) {
            return NONE;
        }
        if (k == 0) {
            return climb.gain();
        }
        climb.fillRow();
        return climb.row[k - 1];
    }

    // ---- heights

    public int agree() {
        return heights.agreeNow() ? 1 : 0;
    }

    public int height(int p) {
        if (!county.hasPlace(p)) {
            return BAD;
        }
        return heights.agreeNow() ? heights.of(p) + HEIGHT_SHIFT : NONE;
    }

    public int ring(int what) {
        if (!isEither(what)) {
            return BAD;
        }
        if (!rings.find()) {
            return NONE;
        }
        return what == 0 ? rings.length : rings.start;
    }

    public int fewest() {
        return heights.fewestToShut();
    }

    public int third(int a, int b) {
        if (!county.hasPlace(a) || !county.hasPlace(b) || a == b) {
            return BAD;
        }
        if (!heights.agreeNow() || !heights.hangTogether(a, b)) {
            return NONE;
        }
        int figure = FIGURE_OF_NO_CHANGE + heights.of(b) - heights.of(a);
        return isFigure(figure) ? figure : NONE;
    }

    // ---- what was told

    public int tell(int p, int s, int r, int q, int v) {
        if (!county.hasPlace(p) || !isSum(s) || !isSum(v) || !county.leadsOn(r, p)) {
            return BAD;
        }
        if (q != NONE && !county.leadsOn(q, county.otherEnd(r, p))) {
            return BAD;
        }
        return told.add(p, s, r, q, v) ? told.size() : FULL;
    }

    public int forget() {
        int size = told.size();
        told.clear();
        return size;
    }

    public int wrong() {
        return told.wrongRoads();
    }

    public int walk(int what) {
        if (!isEither(what)) {
            return BAD;
        }
        if (!told.findWalk()) {
            return NONE;
        }
        return what == 0 ? told.walkRoad : told.walkSums;
    }

    // ---- books, weather, years

    public int byTurns(int what) {
        if (!isEither(what)) {
            return BAD;
        }
        if (!walker.followPlan(county.steps())) {
            return NONE;
        }
        int difference = walker.changes - (walker.sum - county.now.sum);
        return (what == 0 ? difference : difference / 2) + BOOKS_SHIFT;
    }

    public int weather(int a, int b, int x, int part) {
        if (!county.hasPlace(a) || !county.hasPlace(b) || x < 0 || x > TENTHS || !isEither(part)) {
            return BAD;
        }
        sky.findChance(a, b, x);
        return (int) (part == 0 ? sky.above : sky.below);
    }

    public int year(int z, int n, int what) {
        if (z < 0 || z > LAST_YEAR || n < 1 || n > LONGEST_YEAR || !isEither(what)) {
            return BAD;
        }
        walker.followDraws(z, n);
        return what == 0 ? walker.sum : walker.crossed;
    }

    public int keep() {
        if (kept.isFull()) {
            return FULL;
        }
        kept.push(county.now);
        return kept.size();
    }

    public int back() {
        if (!kept.popInto(county.now)) {
            return NO;
        }
        undoable.clear();
        return kept.size();
    }

    public int count(int what) {
        switch (what) {
            case 0: return county.places();
            case 1: return county.roads();
            case 2: return Integer.bitCount(county.now.shutBits);
            case 3: return county.steps();
            case 4: return county.now.crossings;
            case 5: return told.size();
            case 6: return undoable.size();
            case 7: return kept.size();
            case 8: return letters.length();
            default: return BAD;
        }
    }

    private boolean layLetters() {
        if (letters.length() == 0 || reading.firstFault(letters) != NONE) {
            return false;
        }
        county.copyFrom(reading.county);
        told.clear();
        undoable.clear();
        kept.clear();
        return true;
    }

    private static boolean isEither(int what) {
        return what == 0 || what == 1;
    }

    private static boolean isFigure(int figure) {
        return figure >= 0 && figure <= MOST_FIGURE;
    }

    private static boolean isSum(int sum) {
        return sum >= 0 && sum <= MOST_SUM;
    }

    /** THE TEXT as it is written, right or not. */
    private static final class Letters {
        private final char[] signs = new char[MOST_LETTERS];
        private int length;

        boolean append(char sign) {
            if (length >= signs.length) {
                return false;
            }
            signs[length] = sign;
            length++;
            return true;
        }

        void clear() {
            length = 0;
        }

        int length() {
            return length;
        }

        boolean has(int place, char sign) {
            return place >= 0 && place < length && signs[place] == sign;
        }

        /** The sign's worth as a figure, less than 0 if it is none. */
        int figureAt(int place) {
            if (place < 0 || place >= length || signs[place] < '0' || signs[place] > '9') {
                return -1;
            }
            return signs[place] - '0';
        }
    }

    /** Reads ITEMS into a county of its own, so that a FAULT leaves the county that is LAID alone. */
    private static final class Reading {
        private static final int MOST_NUMBERS = 5;

        private final County county = new County();
        private final int[] numbers = new int[MOST_NUMBERS];
        private int place;
        private boolean onlyPlacesTold;

        int firstFault(Letters letters) {
            county.clear();
            onlyPlacesTold = true;
            place = 0;
            for (int items = 0; items < MOST_LETTERS && place < letters.length(); items++) {
                int first = place;
                if (!readItem(letters)) {
                    return first;
                }
            }
            return NONE;
        }

        private boolean readItem(Letters letters) {
            int first = place;
            place++;
            if (letters.has(first, 'n')) {
                return readNumbers(letters, 1) && tellPlaces(numbers[0]);
            }
            onlyPlacesTold = false;
            if (letters.has(first, 'r')) {
                return readNumbers(letters, 5) && tellRoad();
            }
            if (letters.has(first, 's')) {
                return readNumbers(letters, 2) && tellStart(numbers[0], numbers[1]);
            }
            return letters.has(first, 'j') && readNumbers(letters, 1) && county.addStep(numbers[0]);
        }

        private boolean readNumbers(Letters letters, int wanted) {
            for (int i = 0; i < wanted && i < numbers.length; i++) {
                int number = readNumber(letters);
                if (number < 0 || !letters.has(place, i == wanted - 1 ? ';' : ',')) {
                    return false;
                }
                numbers[i] = number;
                place++;
            }
            return true;
        }

        /** One or two figures, less than 0 if there is none. */
        private int readNumber(Letters letters) {
            int first = letters.figureAt(place);
            if (first < 0) {
                return -1;
            }
            place++;
            int second = letters.figureAt(place);
            if (second < 0) {
                return first;
            }
            place++;
            return first * 10 + second;
        }

        private boolean tellPlaces(int places) {
            return onlyPlacesTold && county.setPlaces(places);
        }

        private boolean tellRoad() {
            if (!county.hasPlace(numbers[1]) || !county.hasPlace(numbers[2]) || numbers[1] == numbers[2]) {
                return false;
            }
            if (numbers[0] > DOUBLE || numbers[3] > MOST_FIGURE || numbers[4] > MOST_FIGURE) {
                return false;
            }
            return county.addRoad(numbers[0], numbers[1], numbers[2], numbers[3], numbers[4]);
        }

        private boolean tellStart(int start, int sum) {
            if (!county.hasPlace(start)) {
                return false;
            }
            county.now.place = start;
            county.now.sum = sum;
            return true;
        }
    }

    /** What crossings, mending and shutting change, and so what UNDONE and KEPT bring again. */
    private static final class Standing {
        private int place;
        private int sum;
        private int crossings;
        private int shutBits;
        private final int[] f = new int[MOST_ROADS];
        private final int[] g = new int[MOST_ROADS];

        boolean isShut(int r) {
            return (shutBits & 1 << r) != 0;
        }

        void turn(int r) {
            shutBits ^= 1 << r;
        }

        void copyFrom(Standing other) {
            place = other.place;
            sum = other.sum;
            crossings = other.crossings;
            shutBits = other.shutBits;
            System.arraycopy(other.f, 0, f, 0, MOST_ROADS);
            System.arraycopy(other.g, 0, g, 0, MOST_ROADS);
        }
    }

    /** The latest standings; where it is full, a new one drives out the oldest. */
    private static final class Pile {
        private final Standing[] rows;
        private int size;

        Pile(int most) {
            rows = new Standing[most > 0 ? most : 1];
            for (int i = 0; i < rows.length; i++) {
                rows[i] = new Standing();
            }
        }

        int size() {
            return size;
        }

        boolean isFull() {
            return size >= rows.length;
        }

        void clear() {
            size = 0;
        }

        void push(Standing standing) {
            if (isFull()) {
                dropOldest();
            }
            if (size < rows.length) {
                rows[size].copyFrom(standing);
                size++;
            }
        }

        boolean popInto(Standing standing) {
            if (size <= 0 || size > rows.length) {
                return false;
            }
            size--;
            standing.copyFrom(rows[size]);
            return true;
        }

        private void dropOldest() {
            for (int i = 1; i < rows.length; i++) {
                Standing older = rows[i - 1];
                rows[i - 1] = rows[i];
                rows[i] = older;
            }
            size = rows.length - 1;
        }
    }

    /** PLACES, ROADS and THE JOURNEY as LAID, and how it all stands now. */
    private static final class County {
        private final Standing now = new Standing();
        private final int[] kinds = new int[MOST_ROADS];
        private final int[] starts = new int[MOST_ROADS];
        private final int[] ends = new int[MOST_ROADS];
        private final int[] plan = new int[MOST_STEPS];
        private int places;
        private int roads;
        private int steps;

        void clear() {
            places = PLACES_UNTOLD;
            roads = 0;
            steps = 0;
            now.place = 0;
            now.sum = SUM_UNTOLD;
            now.crossings = 0;
            now.shutBits = 0;
        }

        void copyFrom(County other) {
            places = other.places;
            roads = other.roads;
            steps = other.steps;
            System.arraycopy(other.kinds, 0, kinds, 0, MOST_ROADS);
            System.arraycopy(other.starts, 0, starts, 0, MOST_ROADS);
            System.arraycopy(other.ends, 0, ends, 0, MOST_ROADS);
            System.arraycopy(other.plan, 0, plan, 0, MOST_STEPS);
            now.copyFrom(other.now);
        }

        boolean setPlaces(int told) {
            if (told < FEWEST_PLACES || told > MOST_PLACES) {
                return false;
            }
            places = told;
            return true;
        }

        boolean addRoad(int kind, int start, int end, int f, int g) {
            if (roads >= MOST_ROADS) {
                return false;
            }
            kinds[roads] = kind;
            starts[roads] = start;
            ends[roads] = end;
            now.f[roads] = f;
            now.g[roads] = g;
            roads++;
            return true;
        }

        boolean addStep(int r) {
            if (steps >= MOST_STEPS || !hasRoad(r)) {
                return false;
            }
            plan[steps] = r;
            steps++;
            return true;
        }

        int places() {
            return places;
        }

        int roads() {
            return roads;
        }

        int steps() {
            return steps;
        }

        // NONE is no ROAD, no KIND and no PLACE: who asks for one that is not there comes to nothing by it

        int planned(int i) {
            return i >= 0 && i < steps ? plan[i] : NONE;
        }

        int kindOf(int r) {
            return r >= 0 && r < roads ? kinds[r] : NONE;
        }

        int startOf(int r) {
            return r >= 0 && r < roads ? starts[r] : NONE;
        }

        int endOf(int r) {
            return r >= 0 && r < roads ? ends[r] : NONE;
        }

        boolean hasPlace(int p) {
            return p >= 0 && p < places;
        }

        boolean hasRoad(int r) {
            return r >= 0 && r < roads;
        }

        /** Whether there is such a ROAD and it ends at p, SHUT or not. */
        boolean leadsOn(int r, int p) {
            return hasRoad(r) && (starts[r] == p || ends[r] == p);
        }

        boolean canBeCrossed(int r, int p) {
            return leadsOn(r, p) && !now.isShut(r);
        }

        int otherEnd(int r, int p) {
            if (!hasRoad(r)) {
                return NONE;
            }
            return starts[r] == p ? ends[r] : starts[r];
        }

        /** F or G, as the way from p wants it. */
        int figureFrom(int r, int p) {
            if (r < 0 || r >= roads) {
                return FIGURE_OF_NO_CHANGE;
            }
            return starts[r] == p ? now.f[r] : now.g[r];
        }

        /** CHANGE, which a bridge's rounding and a toll are no part of. */
        int changeFrom(int r, int p) {
            int change = figureFrom(r, p) - FIGURE_OF_NO_CHANGE;
            return hasRoad(r) && kinds[r] == DOUBLE ? 2 * change : change;
        }

        int sumBehind(int r, int p, int sum) {
            return sumBy(r, figureFrom(r, p), sum);
        }

        /** What a sum is behind a ROAD, had the way across it this F or G. */
        int sumBy(int r, int figure, int sum) {
            int change = figure - FIGURE_OF_NO_CHANGE;
            int after = sum + change;
            switch (r >= 0 && r < roads ? kinds[r] : NONE) {
                case BRIDGE:
                    // below 0 it comes to 0 or less, and so to 0 at last, whichever way the division cuts
                    after = (after + 2) / 5 * 5;
                    break;
                case TOLL:
                    after = after - 1;
                    break;
                case DOUBLE:
                    after = after + change;
                    break;
                default:
                    break;
            }
            if (after < 0) {
                return 0;
            }
            return after > MOST_SUM ? MOST_SUM : after;
        }

        int bitsOfAll() {
            return (1 << roads) - 1;
        }

        int bitsNotShut() {
            return bitsOfAll() & ~now.shutBits;
        }
    }

    /** One who tries a way from where one is now, while the county stays as it is. */
    private static final class Walker {
        private final County county;
        private int place;
        private int sum;
        private int changes;
        private int crossed;

        Walker(County county) {
            this.county = county;
        }

        void startNow() {
            place = county.now.place;
            sum = county.now.sum;
            changes = 0;
            crossed = 0;
        }

        boolean goBy(int r) {
            if (!county.canBeCrossed(r, place)) {
                return false;
            }
            changes += county.changeFrom(r, place);
            sum = county.sumBehind(r, place, sum);
            place = county.otherEnd(r, place);
            crossed++;
            return true;
        }

        boolean followPlan(int steps) {
            startNow();
            for (int i = 0; i < steps && i < county.steps(); i++) {
                if (!goBy(county.planned(i))) {
                    return false;
                }
            }
            return true;
        }

        void followDraws(int z, int n) {
            startNow();
            int roads = county.roads();
            if (roads <= 0) {
                return;
            }
            for (int k = 0; k < n; k++) {
                goBy(draw(z, k) % roads);
            }
        }

        private static int draw(int z, int k) {
            long x = 7919L * z + 6151L * k + 1L;
            return (int) (x * x % 65521L / 8L);
        }
    }

    /**
     * Looks for the greatest sums. Of two sums that cross the same ROAD the greater one never
     * comes out as the lesser, so the best sum at each PLACE is all that a step need know.
     */
    private static final class Climb {
        private static final int UNREACHED = -1;

        private final County county;
        private final int[] row = new int[LONGEST_SEARCH];
        private int[] best = new int[MOST_PLACES];
        private int[] next = new int[MOST_PLACES];
        private int highest;
        private int crossings;

        Climb(County county) {
            this.county = county;
        }

        void findMost(int n) {
            begin(county.now.place, county.now.sum);
            highest = county.now.sum;
            crossings = 0;
            for (int step = 1; step <= n; step++) {
                advance();
                for (int p = 0; p < county.places(); p++) {
                    raise(step, best[p]);
                }
            }
        }

        void findRound() {
            begin(county.now.place, county.now.sum);
            highest = county.now.sum;
            crossings = 0;
            for (int step = 1; step <= LONGEST_SEARCH; step++) {
                advance();
                raise(step, bestAtHome());
            }
        }

        int gain() {
            return highest - county.now.sum;
        }

        private void raise(int step, int sum) {
            if (sum > highest) {
                highest = sum;
                crossings = step;
            }
        }

        /** Takes at each step of ROUND the lowest ROAD behind which its sum can still be come to. */
        void fillRow() {
            int place = county.now.place;
            int sum = county.now.sum;
            for (int i = 0; i < crossings && i < row.length; i++) {
                int r = firstToHighest(place, sum, crossings - 1 - i);
                if (r < 0) {
                    return;
                }
                row[i] = r;
                sum = county.sumBehind(r, place, sum);
                place = county.otherEnd(r, place);
            }
        }

        private int firstToHighest(int place, int sum, int left) {
            for (int r = 0; r < county.roads(); r++) {
                if (county.canBeCrossed(r, place)
                        && highestHome(county.otherEnd(r, place), county.sumBehind(r, place, sum), left) == highest) {
                    return r;
                }
            }
            return -1;
        }

        private int highestHome(int place, int sum, int left) {
            begin(place, sum);
            for (int step = 0; step < left; step++) {
                advance();
            }
            return bestAtHome();
        }

        private int bestAtHome() {
            int home = county.now.place;
            return county.hasPlace(home) ? best[home] : UNREACHED;
        }

        private void begin(int place, int sum) {
            Arrays.fill(best, UNREACHED);
            if (county.hasPlace(place)) {
                best[place] = sum;
            }
        }

        private void advance() {
            Arrays.fill(next, UNREACHED);
            for (int r = 0; r < county.roads(); r++) {
                if (!county.now.isShut(r)) {
                    carry(r, county.startOf(r), county.endOf(r));
                    carry(r, county.endOf(r), county.startOf(r));
                }
            }
            int[] spare = best;
            best = next;
            next = spare;
        }

        private void carry(int r, int from, int to) {
            if (county.hasPlace(from) && county.hasPlace(to) && best[from] != UNREACHED) {
                next[to] = Math.max(next[to], county.sumBy(r, county.figureFrom(r, from), best[from]));
            }
        }
    }

    /** Gives heights to PLACES by some of the ROADS, and tells whether these ROADS agree to them. */
    private static final class Heights {
        private static final int UNREACHED = -1;

        private final County county;
        private final int[] lowest = new int[MOST_PLACES];
        private final int[] height = new int[MOST_PLACES];

        Heights(County county) {
            this.county = county;
        }

        boolean agreeNow() {
            return agreeBy(county.bitsNotShut());
        }

        int of(int p) {
            return county.hasPlace(p) ? height[p] : FIRST_HEIGHT;
        }

        boolean hangTogether(int a, int b) {
            return county.hasPlace(a) && county.hasPlace(b) && lowest[a] == lowest[b];
        }

        int fewestToShut() {
            int open = county.bitsNotShut();
            int needed = unlikeWays(open);
            int fewest = open;
            for (int bits = 0; bits <= open; bits++) {
                boolean candidate = (bits & ~open) == 0 && (needed & ~bits) == 0
                        && Integer.bitCount(bits) < Integer.bitCount(fewest);
                if (candidate && agreeBy(open & ~bits)) {
                    fewest = bits;
                }
            }
            return fewest;
        }

        /** ROADS that no heights suit, as there and back by one of them together change the sum. */
        private int unlikeWays(int open) {
            int bits = 0;
            for (int r = 0; r < county.roads(); r++) {
                if ((open & 1 << r) != 0 && county.now.f[r] + county.now.g[r] != MOST_FIGURE) {
                    bits |= 1 << r;
                }
            }
            return bits;
        }

        private boolean agreeBy(int open) {
            Arrays.fill(lowest, UNREACHED);
            for (int p = 0; p < county.places(); p++) {
                if (lowest[p] == UNREACHED) {
                    lowest[p] = p;
                    height[p] = FIRST_HEIGHT;
                    spread(open);
                }
            }
            for (int r = 0; r < county.roads(); r++) {
                if ((open & 1 << r) != 0 && !suits(r)) {
                    return false;
                }
            }
            return true;
        }

        private void spread(int open) {
            boolean spreads = true;
            for (int pass = 0; pass < county.places() && spreads; pass++) {
                spreads = false;
                for (int r = 0; r < county.roads(); r++) {
                    if ((open & 1 << r) != 0 && (carry(r, county.startOf(r)) || carry(r, county.endOf(r)))) {
                        spreads = true;
                    }
                }
            }
        }

        private boolean carry(int r, int from) {
            int to = county.otherEnd(r, from);
            if (!county.hasPlace(from) || !county.hasPlace(to)) {
                return false;
            }
            if (lowest[from] == UNREACHED || lowest[to] != UNREACHED) {
                return false;
            }
            lowest[to] = lowest[from];
            height[to] = height[from] + county.changeFrom(r, from);
            return true;
        }

        private boolean suits(int r) {
            int start = county.startOf(r);
            int end = county.endOf(r);
            int rise = of(end) - of(start);
            return county.changeFrom(r, start) == rise && county.changeFrom(r, end) == -rise;
        }
    }

    /**
     * Looks for the least ring. Of all rows of crossings to a PLACE only the greatest and the
     * least of CHANGES together are kept: if both are 0, so is every other one.
     */
    private static final class Rings {
        private final County county;
        private int[] most = new int[MOST_PLACES];
        private int[] least = new int[MOST_PLACES];
        private int[] nextMost = new int[MOST_PLACES];
        private int[] nextLeast = new int[MOST_PLACES];
        private int reached;
        private int nextReached;
        private int length;
        private int start;

        Rings(County county) {
            this.county = county;
        }

        boolean find() {
            length = LONGEST_RING + 1;
            for (int p = 0; p < county.places(); p++) {
                findFrom(p);
            }
            return length <= LONGEST_RING;
        }

        private void findFrom(int p) {
            reached = 1 << p;
            most[p] = 0;
            least[p] = 0;
            for (int step = 1; step < length && step <= LONGEST_RING; step++) {
                advance();
                if ((reached & 1 << p) != 0 && (most[p] != 0 || least[p] != 0)) {
                    length = step;
                    start = p;
                }
            }
        }

        private void advance() {
            nextReached = 0;
            for (int r = 0; r < county.roads(); r++) {
                if (!county.now.isShut(r)) {
                    carry(r, county.startOf(r), county.endOf(r));
                    carry(r, county.endOf(r), county.startOf(r));
                }
            }
            swapRows();
        }

        private void carry(int r, int from, int to) {
            if (!county.hasPlace(from) || !county.hasPlace(to) || (reached & 1 << from) == 0) {
                return;
            }
            int change = county.changeFrom(r, from);
            boolean first = (nextReached & 1 << to) == 0;
            nextReached |= 1 << to;
            nextMost[to] = first ? most[from] + change : Math.max(nextMost[to], most[from] + change);
            nextLeast[to] = first ? least[from] + change : Math.min(nextLeast[to], least[from] + change);
        }

        private void swapRows() {
            int[] spareMost = most;
            int[] spareLeast = least;
            most = nextMost;
            least = nextLeast;
            nextMost = spareMost;
            nextLeast = spareLeast;
            reached = nextReached;
        }
    }

    /** What is TOLD, and which ROAD could be the one that makes it so. */
    private static final class Told {
        private static final int FORTH = 1;
        private static final int HOME = 2;
        private static final int BOTH = 3;

        private final County county;
        private final int[] places = new int[MOST_TOLD];
        private final int[] sums = new int[MOST_TOLD];
        private final int[] firsts = new int[MOST_TOLD];
        private final int[] seconds = new int[MOST_TOLD];
        private final int[] comes = new int[MOST_TOLD];
        private int size;

        private final int[] ways = new int[MOST_TOLD];
        private final boolean[] fSuits = new boolean[MOST_FIGURE + 1];
        private final boolean[] gSuits = new boolean[MOST_FIGURE + 1];
        private final boolean[] fCanBe = new boolean[MOST_FIGURE + 1];
        private final boolean[] gCanBe = new boolean[MOST_FIGURE + 1];
        private int supposedRoad;
        private int supposedF;
        private int supposedG;
        private int walkRoad;
        private int walkSums;

        Told(County county) {
            this.county = county;
        }

        int size() {
            return size;
        }

        void clear() {
            size = 0;
        }

        boolean add(int p, int s, int r, int q, int v) {
            if (size >= MOST_TOLD) {
                return false;
            }
            places[size] = p;
            sums[size] = s;
            firsts[size] = r;
            seconds[size] = q;
            comes[size] = v;
            size++;
            return true;
        }

        int wrongRoads() {
            int bits = 0;
            for (int r = 0; r < county.roads(); r++) {
                if (suppose(r)) {
                    bits |= 1 << r;
                }
            }
            return bits;
        }

        boolean findWalk() {
            int wrongBits = wrongRoads();
            walkSums = 0;
            if (wrongBits == 0) {
                return false;
            }
            for (int r = 0; r < county.roads(); r++) {
                if (county.canBeCrossed(r, county.now.place)) {
                    int unlike = unlikeSums(r, wrongBits);
                    if (unlike > walkSums) {
                        walkRoad = r;
                        walkSums = unlike;
                    }
                }
            }
            return walkSums > 0;
        }

        /** A greater F or G never leads to a lesser sum, so like sums stand side by side. */
        private int unlikeSums(int r, int wrongBits) {
            boolean isWrong = suppose(r);
            boolean anotherIsWrong = (wrongBits & ~(1 << r)) != 0;
            int place = county.now.place;
            boolean[] canBe = county.startOf(r) == place ? fCanBe : gCanBe;
            int unlike = 0;
            int latest = -1;
            for (int figure = 0; figure <= MOST_FIGURE; figure++) {
                boolean asItIs = anotherIsWrong && figure == county.figureFrom(r, place);
                int sum = county.sumBy(r, figure, county.now.sum);
                if ((asItIs || isWrong && canBe[figure]) && sum != latest) {
                    unlike++;
                    latest = sum;
                }
            }
            return unlike;
        }

        /** Finds each F and each G that r can have, all others being as they are; false: none. */
        private boolean suppose(int r) {
            supposedRoad = r;
            sortByWays(r);
            boolean othersHold = hold(0);
            for (int figure = 0; figure <= MOST_FIGURE; figure++) {
                supposedF = figure;
                supposedG = figure;
                fSuits[figure] = othersHold && hold(FORTH);
                gSuits[figure] = othersHold && hold(HOME);
                fCanBe[figure] = false;
                gCanBe[figure] = false;
            }
            boolean any = false;
            for (int f = 0; f <= MOST_FIGURE; f++) {
                for (int g = 0; g <= MOST_FIGURE; g++) {
                    supposedF = f;
                    supposedG = g;
                    if (fSuits[f] && gSuits[g] && hold(BOTH)) {
                        fCanBe[f] = true;
                        gCanBe[g] = true;
                        any = true;
                    }
                }
            }
            return any;
        }

        /** What goes over r one way alone hangs on F alone or on G alone: no pairs need be tried. */
        private void sortByWays(int r) {
            for (int i = 0; i < size; i++) {
                int between = county.otherEnd(firsts[i], places[i]);
                ways[i] = wayOver(r, firsts[i], places[i]) | wayOver(r, seconds[i], between);
            }
        }

        private int wayOver(int r, int crossed, int from) {
            if (crossed != r) {
                return 0;
            }
            return county.startOf(r) == from ? FORTH : HOME;
        }

        /** Whether all that is TOLD and goes over the supposed ROAD this way would be so. */
        private boolean hold(int way) {
            for (int i = 0; i < size; i++) {
                if (ways[i] == way) {
                    int sum = supposedSum(firsts[i], places[i], sums[i]);
                    if (seconds[i] != NONE) {
                        sum = supposedSum(seconds[i], county.otherEnd(firsts[i], places[i]), sum);
                    }
                    if (sum != comes[i]) {
                        return false;
                    }
                }
            }
            return true;
        }

        private int supposedSum(int r, int from, int sum) {
            int figure = county.figureFrom(r, from);
            if (r == supposedRoad) {
                figure = county.startOf(r) == from ? supposedF : supposedG;
            }
            return county.sumBy(r, figure, sum);
        }
    }

    /** The chance that one PLACE can be come to from another while each ROAD may be closed. */
    private static final class Weather {
        private final County county;
        private final int[] setsBySize = new int[MOST_ROADS + 1];
        private long above;
        private long below;

        Weather(County county) {
            this.county = county;
        }

        void findChance(int a, int b, int x) {
            int notShut = county.bitsNotShut();
            int most = Integer.bitCount(notShut);
            countSets(a, b, notShut);
            above = 0;
            below = power(TENTHS, most);
            for (int open = 0; open <= most && open < setsBySize.length; open++) {
                above += setsBySize[open] * power(x, open) * power(TENTHS - x, most - open);
            }
            lowestTerms();
        }

        private void countSets(int a, int b, int notShut) {
            Arrays.fill(setsBySize, 0);
            for (int open = 0; open <= notShut; open++) {
                int roads = Integer.bitCount(open);
                if ((open & ~notShut) == 0 && roads < setsBySize.length && leads(a, b, open)) {
                    setsBySize[roads]++;
                }
            }
        }

        private boolean leads(int a, int b, int open) {
            int reached = 1 << a;
            int before = 0;
            for (int pass = 0; pass < MOST_PLACES && reached != before; pass++) {
                before = reached;
                for (int r = 0; r < county.roads(); r++) {
                    int both = 1 << county.startOf(r) | 1 << county.endOf(r);
                    if ((open & 1 << r) != 0 && (reached & both) != 0) {
                        reached |= both;
                    }
                }
            }
            return (reached & 1 << b) != 0;
        }

        private static long power(int base, int times) {
            long product = 1;
            for (int i = 0; i < times; i++) {
                product *= base;
            }
            return product;
        }

        private void lowestTerms() {
            long divisor = below;
            long rest = above;
            for (int i = 0; i < 64 && rest != 0; i++) {
                long remainder = divisor % rest;
                divisor = rest;
                rest = remainder;
            }
            if (divisor != 0) {
                above /= divisor;
                below /= divisor;
            }
        }
    }
}
