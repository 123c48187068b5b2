import java.util.ArrayList;
import java.util.List;
import java.util.TreeSet;

/** Of every call: each number that is none, what is refused first of several, and that nothing changes then. */
public final class RefusalsTest {
    private static final Due due = new Due("RefusalsTest");

    /** One call of the face on these numbers. */
    private interface Call {
        int on(SumsThatDiffer x, int... numbers);
    }

    /** How an object comes to stand as it does. */
    private interface Making {
        SumsThatDiffer make();
    }

    public static void main(String[] args) {
        badNumbers();
        refusedWhereAllIsFull();
        refusedWhereNothingIs();
        questionsChangeNothing();
        due.end();
    }

    /**
     * Here each call that can be refused is, by itself: THE TEXT, TOLD and KEPT are full, the text has a FAULT, heights
     * do not agree, THE JOURNEY can not be gone, no ROAD is WRONG, by no ROUND there is more, eight can be UNDONE.
     */
    private static SumsThatDiffer full() {
        SumsThatDiffer x = Due.laid("r0,0,1,25,15;r0,1,2,15,20;r2,2,3,20,17;r3,3,0,14,26;r0,0,2,21,19;s0,50;j0;j1;j2;j4;");
        x.keep();
        x.cross(0);
        x.keep();
        x.cross(0);
        for (int i = 1; i <= 7; i++) {
            x.mend(3, 10 + i, 26 - i);
        }
        x.shut(2, true);
        for (int v = 0; v < 6; v++) {
            x.tell(0, 50, 0, v % 2 == 0 ? -4 : 1, 30 + v);
        }
        for (int letters = x.count(8); letters < 200; letters++) {
            x.write('x');
        }
        return x;
    }

    private static SumsThatDiffer empty() {
        SumsThatDiffer x = Due.laid("n2;");
        x.wipe();
        return x;
    }

    private static void badNumbers() {
        due.by(0, "BAD: a number is none that is told (PLACES, ROADS: such as there are).");
        bad("write", (x, a) -> x.write(a[0]), 32, 126);
        bad("road", (x, a) -> x.road(a[0], a[1]), 0, 4, 0, 5);
        bad("at", (x, a) -> x.at(a[0]), 0, 1);
        bad("cross", (x, a) -> x.cross(a[0]), 0, 4);
        bad("mend", (x, a) -> x.mend(a[0], a[1], a[2]), 0, 4, 0, 40, 0, 40);
        bad("shut, true", (x, a) -> x.shut(a[0], true), 0, 4);
        bad("shut, false", (x, a) -> x.shut(a[0], false), 0, 4);
        bad("journey", (x, a) -> x.journey(a[0], a[1]), 0, 4, 0, 1);
        bad("most", (x, a) -> x.most(a[0], a[1]), 0, 5, 0, 1);
        bad("round", (x, a) -> x.round(a[0]), 0, 5);
        bad("height", (x, a) -> x.height(a[0]), 0, 3);
        bad("ring", (x, a) -> x.ring(a[0]), 0, 1);
        bad("third", (x, a) -> x.third(a[0], a[1]), 0, 3, 0, 3);
        bad("tell, r alone", (x, a) -> x.tell(a[0], a[1], a[2], -4, a[3]), 0, 3, 0, 999, 0, 4, 0, 999);
        bad("tell", (x, a) -> x.tell(0, 50, 0, a[0], 50), 0, 4);
        bad("walk", (x, a) -> x.walk(a[0]), 0, 1);
        bad("byTurns", (x, a) -> x.byTurns(a[0]), 0, 1);
        bad("weather", (x, a) -> x.weather(a[0], a[1], a[2], a[3]), 0, 3, 0, 3, 0, 10, 0, 1);
        bad("year", (x, a) -> x.year(a[0], a[1], a[2]), 0, 9999, 1, 60, 0, 1);
        bad("count", (x, a) -> x.count(a[0]), 0, 8);
    }

    /** Each number in turn is beside its bounds (least, most, least, most, ..), the others are at theirs. */
    private static void bad(String name, Call call, int... bounds) {
        int numbers = bounds.length / 2;
        for (int i = 0; i < numbers; i++) {
            for (int beside : beside(bounds[2 * i], bounds[2 * i + 1])) {
                for (int end = 0; end < 2; end++) {
                    int[] a = new int[numbers];
                    for (int j = 0; j < numbers; j++) {
                        a[j] = j == i ? beside : bounds[2 * j + end];
                    }
                    String told = name + ", its number " + i + " being " + beside;
                    due.is(told, call.on(new SumsThatDiffer(), a), -1);
                    refused(RefusalsTest::full, told + ", ahead of all else", x -> call.on(x, a), -1);
                }
            }
        }
    }

    /** Just beside, far beside, and what would be within if it were shortened or shifted by. NONE is no number of these. */
    private static TreeSet<Integer> beside(int least, int most) {
        TreeSet<Integer> all = new TreeSet<>();
        int[] far = {-2, -3, -5, 32, 64, 256, 65536, 65536 + least, -65536 + least, 1 << 31 | least, Integer.MIN_VALUE, Integer.MAX_VALUE};
        for (int number : far) {
            all.add(number);
        }
        all.add(least - 1);
        all.add(most + 1);
        all.removeIf(number -> number >= least && number <= most);
        return all;
    }

    private interface Refused {
        int on(SumsThatDiffer x);
    }

    /** The call is refused, and all that can be asked is then as on another object, on which it was not called. */
    private static void refused(Making making, String call, Refused refused, int want) {
        SumsThatDiffer x = making.make();
        SumsThatDiffer twin = making.make();
        due.is(call, refused.on(x), want);
        due.is(call + ", once more", refused.on(x), want);
        unchanged(call, x, twin);
    }

    private static void unchanged(String call, SumsThatDiffer x, SumsThatDiffer twin) {
        List<Integer> all = all(x);
        List<Integer> before = all(twin);
        due.is(call + ": all is as it was", all.equals(before) ? 1 : 0, 1);
    }

    /** What can be asked, then what undo() and back() bring again; few enough calls that all come to less than 512. */
    private static List<Integer> all(SumsThatDiffer x) {
        List<Integer> all = new ArrayList<>();
        int roads = x.count(1);
        for (int what = 0; what <= 8; what++) {
            all.add(x.count(what));
        }
        for (int r = 0; r < roads; r++) {
            for (int what = 3; what <= 5; what++) {
                all.add(x.road(r, what));
            }
        }
        for (int k = 0; k <= 4; k++) {
            all.add(x.journey(k, 1));
        }
        all.add(x.fault());
        all.add(x.wrong());
        all.add(x.walk(1));
        standing(x, all);
        for (int undone = 0; undone <= 8; undone++) {
            all.add(x.undo());
            standing(x, all);
        }
        for (int kept = 0; kept <= 2; kept++) {
            all.add(x.back());
            standing(x, all);
        }
        all.add(x.forget());
        all.add(x.wipe());
        return all;
    }

    private static void standing(SumsThatDiffer x, List<Integer> all) {
        all.add(x.at(0));
        all.add(x.at(1));
        all.add(x.count(2));
        all.add(x.count(4));
        all.add(x.road(3, 3));
        all.add(x.road(3, 4));
    }

    private static void refusedWhereAllIsFull() {
        due.by(0, "Of several the first in this order, whatever the order at a call; nothing changes then.");
        Making full = RefusalsTest::full;
        refused(full, "write('n')", x -> x.write('n'), -3);
        refused(full, "lay()", x -> x.lay(), -2);
        refused(full, "cross(1), elsewhere", x -> x.cross(1), -2);
        refused(full, "cross(2), elsewhere and SHUT", x -> x.cross(2), -2);
        refused(full, "shut(2, true)", x -> x.shut(2, true), -2);
        refused(full, "shut(0, false)", x -> x.shut(0, false), -2);
        refused(full, "journey(3, 0)", x -> x.journey(3, 0), -4);
        refused(full, "journey(4, 1)", x -> x.journey(4, 1), -4);
        refused(full, "round(0)", x -> x.round(0), -4);
        refused(full, "round(5)", x -> x.round(5), -4);
        refused(full, "height(0)", x -> x.height(0), -4);
        refused(full, "third(0, 1)", x -> x.third(0, 1), -4);
        refused(full, "third(2, 2)", x -> x.third(2, 2), -1);
        refused(full, "tell(0, 50, 0, -4, 5)", x -> x.tell(0, 50, 0, -4, 5), -3);
        refused(full, "tell(0, 50, 1, -4, 5)", x -> x.tell(0, 50, 1, -4, 5), -1);
        refused(full, "tell(0, 50, 0, 4, 5)", x -> x.tell(0, 50, 0, 4, 5), -1);
        refused(full, "walk(0)", x -> x.walk(0), -4);
        refused(full, "byTurns(0)", x -> x.byTurns(0), -4);
        refused(full, "keep()", x -> x.keep(), -3);
        due.is("what came of full(): all eight can be UNDONE", full().undo(), 7);
    }

    private static void refusedWhereNothingIs() {
        due.by(0, "NO: not as things stand. NONE: there is none.");
        Making empty = RefusalsTest::empty;
        refused(empty, "fault()", x -> x.fault(), -4);
        refused(empty, "lay()", x -> x.lay(), -2);
        refused(empty, "undo()", x -> x.undo(), -2);
        refused(empty, "back()", x -> x.back(), -2);
        refused(empty, "cross(0)", x -> x.cross(0), -1);
        refused(empty, "mend(0, 20, 20)", x -> x.mend(0, 20, 20), -1);
        refused(empty, "shut(0, true)", x -> x.shut(0, true), -1);
        refused(empty, "road(0, 0)", x -> x.road(0, 0), -1);
        refused(empty, "tell(0, 50, 0, -4, 50)", x -> x.tell(0, 50, 0, -4, 50), -1);
        refused(empty, "journey(1, 0)", x -> x.journey(1, 0), -1);
        refused(empty, "round(0)", x -> x.round(0), -4);
        refused(empty, "ring(0)", x -> x.ring(0), -4);
        refused(empty, "third(0, 1)", x -> x.third(0, 1), -4);
        refused(empty, "walk(0)", x -> x.walk(0), -4);
    }

    private static void questionsChangeNothing() {
        due.by(0, "Nothing is promised beyond the answers and state changes described above");
        Making[] makings = {RefusalsTest::full, SumsThatDiffer::new, RefusalsTest::empty};
        for (Making making : makings) {
            SumsThatDiffer x = making.make();
            x.fault();
            x.road(0, 3);
            x.at(1);
            x.journey(1, 1);
            x.most(5, 0);
            x.round(1);
            x.agree();
            x.height(0);
            x.ring(1);
            x.fewest();
            x.third(0, 1);
            x.wrong();
            x.walk(0);
            x.byTurns(1);
            x.weather(0, 1, 5, 0);
            x.year(77, 60, 0);
            x.count(4);
            unchanged("all questions", x, making.make());
        }
    }
}
