import java.math.BigInteger;
import java.util.ArrayList;
import java.util.HashSet;
import java.util.List;
import java.util.Set;
import java.util.regex.Matcher;
import java.util.regex.Pattern;

/** The document once more, by trying everything: slow, plain, and none of the program's shortcuts. */
final class Model {
    static final int BAD = -1, NO = -2, FULL = -3, NONE = -4;
    private static final Pattern ITEM = Pattern.compile("([nrsj])(\\d\\d?(?:,\\d\\d?)*);");

    /** All that KEPT and UNDONE bring again. */
    private static final class State {
        int place = 0, sum = 50, crossings = 0;
        List<int[]> roads = new ArrayList<>();

        State twin() {
            State t = new State();
            t.place = place;
            t.sum = sum;
            t.crossings = crossings;
            for (int[] r : roads) {
                t.roads.add(r.clone());
            }
            return t;
        }
    }

    private String text = "";
    private int places;
    private List<Integer> plan = new ArrayList<>();
    private State now = new State();
    private List<State> past = new ArrayList<>();
    private List<State> kept = new ArrayList<>();
    private List<int[]> told = new ArrayList<>();

    private int readPlaces;
    private State readState;
    private List<Integer> readPlan;

    Model() {
        text = "n4;r0,0,1,31,9;r0,1,2,18,22;r1,2,3,25,15;r2,3,0,20,20;r0,0,2,24,16;s0,50;j0;j1;j4;";
        lay();
        text = "";
    }

    int write(int letter) {
        if (letter < 32 || letter > 126) {
            return BAD;
        }
        if (text.length() == 200) {
            return FULL;
        }
        text += (char) letter;
        return text.length();
    }

    int wipe() {
        int n = text.length();
        text = "";
        return n;
    }

    int fault() {
        readPlaces = 4;
        readState = new State();
        readPlan = new ArrayList<>();
        boolean others = false;
        int at = 0;
        while (at < text.length()) {
            Matcher m = ITEM.matcher(text).region(at, text.length());
            if (!m.lookingAt()) {
                return at;
            }
            String[] parts = m.group(2).split(",");
            int[] v = new int[parts.length];
            for (int i = 0; i < v.length; i++) {
                v[i] = Integer.parseInt(parts[i]);
            }
            if (!takes(m.group(1).charAt(0), v, others)) {
                return at;
            }
            others |= m.group(1).charAt(0) != 'n';
            at = m.end();
        }
        return NONE;
    }

    private boolean takes(char letter, int[] v, boolean others) {
        if (letter == 'n') {
            if (v.length != 1 || others || v[0] < 2 || v[0] > 6) {
                return false;
            }
            readPlaces = v[0];
            return true;
        }
        if (letter == 'r') {
            if (v.length != 5 || readState.roads.size() == 9 || v[0] > 3 || v[1] >= readPlaces || v[2] >= readPlaces
                    || v[1] == v[2] || v[3] > 40 || v[4] > 40) {
                return false;
            }
            readState.roads.add(new int[] {v[0], v[1], v[2], v[3], v[4], 0});
            return true;
        }
        if (letter == 's') {
            if (v.length != 2 || v[0] >= readPlaces) {
                return false;
            }
            readState.place = v[0];
            readState.sum = v[1];
            return true;
        }
        if (v.length != 1 || readPlan.size() == 9 || v[0] >= readState.roads.size()) {
            return false;
        }
        readPlan.add(v[0]);
        return true;
    }

    int lay() {
        if (text.isEmpty() || fault() != NONE) {
            return NO;
        }
        places = readPlaces;
        plan = readPlan;
        now = readState;
        past.clear();
        kept.clear();
        told.clear();
        return now.roads.size();
    }

    private boolean noRoad(int r) {
        return r < 0 || r >= now.roads.size();
    }

    private boolean noPlace(int p) {
        return p < 0 || p >= places;
    }

    int road(int r, int what) {
        return noRoad(r) || what < 0 || what > 5 ? BAD : now.roads.get(r)[what];
    }

    int at(int what) {
        return what == 0 ? now.place : what == 1 ? now.sum : BAD;
    }

    private static boolean ends(int[] road, int p) {
        return road[1] == p || road[2] == p;
    }

    private static int over(int[] road, int p) {
        return road[1] + road[2] - p;
    }

    private static int change(int[] road, int p) {
        int c = (road[1] == p ? road[3] : road[4]) - 20;
        return road[0] == 3 ? c + c : c;
    }

    private static int sumOver(int[] road, int p, int sum) {
        int s = sum + change(road, p);
        if (road[0] == 1) {
            while (s % 5 != 0) {
                int rest = ((s % 5) + 5) % 5;
                s += rest <= 2 ? -1 : 1;
            }
        }
        if (road[0] == 2) {
            s--;
        }
        return s < 0 ? 0 : s > 999 ? 999 : s;
    }

    private void remember() {
        past.add(now.twin());
        if (past.size() > 8) {
            past.remove(0);
        }
    }

    int cross(int r) {
        if (noRoad(r)) {
            return BAD;
        }
        int[] road = now.roads.get(r);
        if (road[5] == 1 || !ends(road, now.place)) {
            return NO;
        }
        remember();
        now.sum = sumOver(road, now.place, now.sum);
        now.place = over(road, now.place);
        now.crossings++;
        return now.sum;
    }

    int mend(int r, int f, int g) {
        if (noRoad(r) || f < 0 || f > 40 || g < 0 || g > 40) {
            return BAD;
        }
        remember();
        int was = now.roads.get(r)[3];
        now.roads.get(r)[3] = f;
        now.roads.get(r)[4] = g;
        return was;
    }

    int shut(int r, boolean shut) {
        if (noRoad(r)) {
            return BAD;
        }
        if ((now.roads.get(r)[5] == 1) == shut) {
            return NO;
        }
        remember();
        now.roads.get(r)[5] = shut ? 1 : 0;
        return count(2);
    }

    int undo() {
        if (past.isEmpty()) {
            return NO;
        }
        now = past.remove(past.size() - 1);
        return past.size();
    }

    int journey(int k, int what) {
        if (k < 0 || k > plan.size() || what < 0 || what > 1) {
            return BAD;
        }
        State s = follow(k);
        return s == null ? NONE : what == 0 ? s.place : s.sum;
    }

    private State follow(int k) {
        State s = now.twin();
        for (int i = 0; i < k; i++) {
            int[] road = s.roads.get(plan.get(i));
            if (road[5] == 1 || !ends(road, s.place)) {
                return null;
            }
            s.sum = sumOver(road, s.place, s.sum);
            s.place = over(road, s.place);
        }
        return s;
    }

    private int bestSum;
    private int bestLength;
    private List<Integer> bestRow;

    int most(int n, int what) {
        if (n < 0 || n > 5 || what < 0 || what > 1) {
            return BAD;
        }
        bestSum = now.sum;
        bestLength = 0;
        seek(now.place, now.sum, n, new ArrayList<>(), false);
        return what == 0 ? bestSum : bestLength;
    }

    int round(int k) {
        if (k < 0 || k > 5) {
            return BAD;
        }
        bestSum = now.sum;
        bestLength = 0;
        bestRow = List.of();
        seek(now.place, now.sum, 5, new ArrayList<>(), true);
        if (k > bestLength || bestLength == 0) {
            return NONE;
        }
        return k == 0 ? bestSum - now.sum : bestRow.get(k - 1);
    }

    private void seek(int place, int sum, int left, List<Integer> row, boolean home) {
        boolean counts = !home || place == now.place && row.size() >= 2;
        if (counts && (sum > bestSum || sum == bestSum && row.size() < bestLength)) {
            bestSum = sum;
            bestLength = row.size();
            bestRow = new ArrayList<>(row);
        }
        if (left == 0) {
            return;
        }
        for (int r = 0; r < now.roads.size(); r++) {
            int[] road = now.roads.get(r);
            if (road[5] == 0 && ends(road, place)) {
                row.add(r);
                seek(over(road, place), sumOver(road, place, sum), left - 1, row, home);
                row.remove(row.size() - 1);
            }
        }
    }

    /** For each length, from p back to p without the roads of some bits: is there a row that is not 0? */
    private int leastRingFrom(int p, int without) {
        Set<Integer> front = new HashSet<>();
        front.add(p * 10000 + 5000);
        for (int length = 1; length <= 6; length++) {
            Set<Integer> next = new HashSet<>();
            for (int v : front) {
                for (int r = 0; r < now.roads.size(); r++) {
                    int[] road = now.roads.get(r);
                    if (road[5] == 0 && (without >> r & 1) == 0 && ends(road, v / 10000)) {
                        next.add(over(road, v / 10000) * 10000 + v % 10000 + change(road, v / 10000));
                    }
                }
            }
            for (int v : next) {
                if (length >= 2 && v / 10000 == p && v % 10000 != 5000) {
                    return length;
                }
            }
            front = next;
        }
        return 7;
    }

    /** By potentials that are narrowed down: no height may be told twice and unlike. */
    private int[] heights(int without) {
        int[] h = new int[places];
        boolean[] has = new boolean[places];
        for (int p = 0; p < places; p++) {
            if (!has[p] && !climbs(p, 100, h, has, without)) {
                return null;
            }
        }
        return h;
    }

    private boolean climbs(int p, int height, int[] h, boolean[] has, int without) {
        if (has[p]) {
            return h[p] == height;
        }
        has[p] = true;
        h[p] = height;
        for (int r = 0; r < now.roads.size(); r++) {
            int[] road = now.roads.get(r);
            if (road[5] == 0 && (without >> r & 1) == 0 && ends(road, p)
                    && !climbs(over(road, p), height + change(road, p), h, has, without)) {
                return false;
            }
        }
        return true;
    }

    int agree() {
        return heights(0) == null ? 0 : 1;
    }

    int height(int p) {
        if (noPlace(p)) {
            return BAD;
        }
        int[] h = heights(0);
        return h == null ? NONE : h[p] + 1000;
    }

    int ring(int what) {
        if (what < 0 || what > 1) {
            return BAD;
        }
        int least = 7;
        int from = 0;
        for (int p = 0; p < places; p++) {
            int l = leastRingFrom(p, 0);
            if (l < least) {
                least = l;
                from = p;
            }
        }
        return least == 7 ? NONE : what == 0 ? least : from;
    }

    int fewest() {
        for (int size = 0; size <= 9; size++) {
            for (int bits = 0; bits < 1 << now.roads.size(); bits++) {
                boolean noneShut = true;
                for (int r = 0; r < now.roads.size(); r++) {
                    noneShut &= (bits >> r & 1) == 0 || now.roads.get(r)[5] == 0;
                }
                if (noneShut && Integer.bitCount(bits) == size && heights(bits) != null) {
                    return bits;
                }
            }
        }
        throw new IllegalStateException("all shut and still unlike");
    }

    int third(int a, int b) {
        if (noPlace(a) || noPlace(b) || a == b) {
            return BAD;
        }
        if (heights(0) == null || !reaches(a, b, new boolean[places], (1 << 9) - 1)) {
            return NONE;
        }
        for (int f = 0; f <= 40; f++) {
            now.roads.add(new int[] {0, a, b, f, 40 - f, 0});
            boolean agrees = heights(0) != null;
            now.roads.remove(now.roads.size() - 1);
            if (agrees) {
                return f;
            }
        }
        return NONE;
    }

    private boolean reaches(int a, int b, boolean[] seen, int open) {
        if (a == b) {
            return true;
        }
        seen[a] = true;
        for (int r = 0; r < now.roads.size(); r++) {
            int[] road = now.roads.get(r);
            if (road[5] == 0 && (open >> r & 1) == 1 && ends(road, a) && !seen[over(road, a)]
                    && reaches(over(road, a), b, seen, open)) {
                return true;
            }
        }
        return false;
    }

    int tell(int p, int s, int r, int q, int v) {
        if (noPlace(p) || s < 0 || s > 999 || v < 0 || v > 999 || noRoad(r) || q != NONE && noRoad(q)) {
            return BAD;
        }
        if (!ends(now.roads.get(r), p) || q != NONE && !ends(now.roads.get(q), over(now.roads.get(r), p))) {
            return BAD;
        }
        if (told.size() == 6) {
            return FULL;
        }
        told.add(new int[] {p, s, r, q, v});
        return told.size();
    }

    int forget() {
        int n = told.size();
        told.clear();
        return n;
    }

    private boolean allToldIsSo() {
        for (int[] t : told) {
            int[] first = now.roads.get(t[2]);
            int sum = sumOver(first, t[0], t[1]);
            if (t[3] != NONE) {
                sum = sumOver(now.roads.get(t[3]), over(first, t[0]), sum);
            }
            if (sum != t[4]) {
                return false;
            }
        }
        return true;
    }

    /** For each road the sums behind a crossing of every road, by every F and G of it that fit. */
    private List<Set<Integer>> sumsByWrong(int x) {
        List<Set<Integer>> sums = new ArrayList<>();
        for (int r = 0; r < now.roads.size(); r++) {
            sums.add(new HashSet<>());
        }
        int[] road = now.roads.get(x);
        int f = road[3];
        int g = road[4];
        boolean any = false;
        for (int i = 0; i < 41 * 41; i++) {
            road[3] = i / 41;
            road[4] = i % 41;
            if (allToldIsSo()) {
                any = true;
                for (int r = 0; r < now.roads.size(); r++) {
                    int[] y = now.roads.get(r);
                    if (y[5] == 0 && ends(y, now.place)) {
                        sums.get(r).add(sumOver(y, now.place, now.sum));
                    }
                }
            }
        }
        road[3] = f;
        road[4] = g;
        return any ? sums : null;
    }

    int wrong() {
        int bits = 0;
        for (int x = 0; x < now.roads.size(); x++) {
            bits |= sumsByWrong(x) != null ? 1 << x : 0;
        }
        return bits;
    }

    int walk(int what) {
        if (what < 0 || what > 1) {
            return BAD;
        }
        List<Set<Integer>> all = new ArrayList<>();
        for (int r = 0; r < now.roads.size(); r++) {
            all.add(new HashSet<>());
        }
        for (int x = 0; x < now.roads.size(); x++) {
            List<Set<Integer>> sums = sumsByWrong(x);
            for (int r = 0; sums != null && r < now.roads.size(); r++) {
                all.get(r).addAll(sums.get(r));
            }
        }
        int best = -1;
        for (int r = 0; r < all.size(); r++) {
            if (!all.get(r).isEmpty() && (best < 0 || all.get(r).size() > all.get(best).size())) {
                best = r;
            }
        }
        return best < 0 ? NONE : what == 0 ? best : all.get(best).size();
    }

    int byTurns(int what) {
        if (what < 0 || what > 1) {
            return BAD;
        }
        State end = follow(plan.size());
        if (end == null) {
            return NONE;
        }
        int changes = 0;
        for (int i = 0; i < plan.size(); i++) {
            changes += change(now.roads.get(plan.get(i)), follow(i).place);
        }
        int d = changes - (end.sum - now.sum);
        return what == 0 ? d + 5000 : Integer.signum(d) * (Math.abs(d) / 2) + 5000;
    }

    int weather(int a, int b, int x, int part) {
        if (noPlace(a) || noPlace(b) || x < 0 || x > 10 || part < 0 || part > 1) {
            return BAD;
        }
        BigInteger above = BigInteger.ZERO;
        BigInteger below = BigInteger.TEN.pow(now.roads.size());
        for (int open = 0; open < 1 << now.roads.size(); open++) {
            if (reaches(a, b, new boolean[places], open)) {
                BigInteger chance = BigInteger.ONE;
                for (int r = 0; r < now.roads.size(); r++) {
                    chance = chance.multiply(BigInteger.valueOf((open >> r & 1) == 1 ? x : 10 - x));
                }
                above = above.add(chance);
            }
        }
        BigInteger divisor = above.gcd(below);
        return (part == 0 ? above : below).divide(divisor).intValueExact();
    }

    int year(int z, int n, int what) {
        if (z < 0 || z > 9999 || n < 1 || n > 60 || what < 0 || what > 1) {
            return BAD;
        }
        State s = now.twin();
        int crossed = 0;
        for (int k = 0; k < n && !s.roads.isEmpty(); k++) {
            BigInteger x = BigInteger.valueOf(7919L * z + 6151L * k + 1);
            int draw = x.multiply(x).mod(BigInteger.valueOf(65521)).intValueExact() / 8;
            int[] road = s.roads.get(draw % s.roads.size());
            if (road[5] == 0 && ends(road, s.place)) {
                s.sum = sumOver(road, s.place, s.sum);
                s.place = over(road, s.place);
                crossed++;
            }
        }
        return what == 0 ? s.sum : crossed;
    }

    int keep() {
        if (kept.size() == 2) {
            return FULL;
        }
        kept.add(now.twin());
        return kept.size();
    }

    int back() {
        if (kept.isEmpty()) {
            return NO;
        }
        now = kept.remove(kept.size() - 1);
        past.clear();
        return kept.size();
    }

    int count(int what) {
        switch (what) {
            case 0: return places;
            case 1: return now.roads.size();
            case 2: return (int) now.roads.stream().filter(r -> r[5] == 1).count();
            case 3: return plan.size();
            case 4: return now.crossings;
            case 5: return told.size();
            case 6: return past.size();
            case 7: return kept.size();
            case 8: return text.length();
            default: return BAD;
        }
    }
}
