/** Promises 20 to 23: TOLD, forgotten, WRONG, WALK. */
public final class ToldTest {
    private static final Due due = new Due("ToldTest");

    public static void main(String[] args) {
        sixAreTold();
        sumsThatAreTold();
        placesThatAreTold();
        roadsThatAreTold();
        secondRoadsThatAreTold();
        shutOrNot();
        badAheadOfFull();
        forgetting();

        nothingIsTold();
        oneRoadAlone();
        figuresFromNoneToForty();
        bothWaysOfOneRoad();
        cutOnTheWay();
        wrongByKinds();
        allOthersAsTheyAre();
        shutOnesAreWrongToo();

        mostUnlikeSums();
        walkByLowestOfSeveral();
        walkByWhatIsTold();
        walkThereAndBack();
        walkCutAtItsBounds();
        asItIsByAnother();
        noWalk();
        badWalks();
        due.end(20, 21, 22, 23);
    }

    private static void tell(SumsThatDiffer x, int p, int s, int r, int q, int v, int want) {
        due.is("tell(" + p + ", " + s + ", " + r + ", " + q + ", " + v + ")", x.tell(p, s, r, q, v), want);
    }

    // ---- promises 20 and 21

    private static void sixAreTold() {
        due.by(20, "TOLD (6 at most)");
        SumsThatDiffer x = new SumsThatDiffer();
        for (int i = 1; i <= 6; i++) {
            tell(x, 0, 50, 0, -4, 61, i);
        }
        tell(x, 0, 50, 0, -4, 61, -3);
        tell(x, 0, 50, 0, 1, 5, -3);
        due.is("count(5), as it was", x.count(5), 6);
        due.is("wrong(), the seventh is not TOLD", x.wrong(), 31);
        due.is("count(6), nothing to be UNDONE", x.count(6), 0);
        due.is("forget()", x.forget(), 6);
        tell(x, 0, 50, 0, 1, 5, 1);
    }

    private static void sumsThatAreTold() {
        due.by(20, "with a sum s (0 to 999) by ROAD r, then by q");
        SumsThatDiffer x = new SumsThatDiffer();
        int[] bad = {-1, 1000, -4, 65536, Integer.MIN_VALUE, Integer.MAX_VALUE};
        for (int sum : bad) {
            tell(x, 0, sum, 0, -4, 5, -1);
            tell(x, 0, 5, 0, -4, sum, -1);
            tell(x, 0, sum, 0, 0, 5, -1);
            tell(x, 0, 5, 0, 0, sum, -1);
        }
        due.is("count(5), none is TOLD", x.count(5), 0);
        due.by(20, "came with a sum v (0 to 999)");
        tell(x, 0, 0, 0, -4, 999, 1);
        tell(x, 0, 999, 0, -4, 0, 2);
    }

    private static void placesThatAreTold() {
        due.by(20, "(PLACES, ROADS: such as there are)");
        SumsThatDiffer x = new SumsThatDiffer();
        int[] bad = {-1, 4, 5, 32, Integer.MIN_VALUE, Integer.MAX_VALUE};
        for (int p : bad) {
            tell(x, p, 50, 0, -4, 5, -1);
        }
        tell(x, 3, 50, 3, -4, 5, 1);
        tell(Due.laid("n2;"), 0, 50, 0, -4, 5, -1);
        tell(Due.laid("n6;r0,5,0,20,20;"), 5, 50, 0, -4, 5, 1);
    }

    private static void roadsThatAreTold() {
        due.by(20, "BAD (r, q such ROADS as there are, or q NONE; ROADS that do not end there)");
        SumsThatDiffer x = new SumsThatDiffer();
        int[] bad = {-1, -2, -3, -4, -5, 5, 9, 32, Integer.MIN_VALUE, Integer.MAX_VALUE};
        for (int r : bad) {
            tell(x, 0, 50, r, -4, 5, -1);
            tell(x, 0, 50, r, 0, 5, -1);
        }
        int[][] ends = {{0, 1}, {1, 2}, {2, 3}, {3, 0}, {0, 2}};
        int told = 0;
        for (int p = 0; p < 4; p++) {
            for (int r = 0; r < 5; r++) {
                boolean there = ends[r][0] == p || ends[r][1] == p;
                told += there ? 1 : 0;
                tell(x, p, 50, r, -4, 5, there ? told : -1);
                if (told == 6) {
                    x.forget();
                    told = 0;
                }
            }
        }
    }

    private static void secondRoadsThatAreTold() {
        due.by(20, "then by q (NONE: by r alone)");
        SumsThatDiffer x = new SumsThatDiffer();
        int[] bad = {-1, -2, -3, -5, 5, 9, 32, Integer.MIN_VALUE, Integer.MAX_VALUE};
        for (int q : bad) {
            tell(x, 0, 50, 0, q, 5, -1);
        }
        // road 0 leads from 0 to 1: 0 and 1 end there, 2, 3 and 4 do not
        tell(x, 0, 50, 0, -4, 5, 1);
        tell(x, 0, 50, 0, 0, 5, 2);
        tell(x, 0, 50, 0, 1, 5, 3);
        tell(x, 0, 50, 0, 2, 5, -1);
        tell(x, 0, 50, 0, 3, 5, -1);
        tell(x, 0, 50, 0, 4, 5, -1);
        // from 1 it leads to 0
        tell(x, 1, 50, 0, 3, 5, 4);
        tell(x, 1, 50, 0, 4, 5, 5);
        tell(x, 1, 50, 0, 1, 5, -1);
        tell(x, 1, 50, 0, 2, 5, -1);
        tell(x, 1, 50, 0, 0, 5, 6);
    }

    private static void shutOrNot() {
        due.by(20, "SHUT or not");
        SumsThatDiffer x = Due.laid("r0,0,1,25,15;r0,1,2,25,15;");
        x.shut(0, true);
        tell(x, 0, 50, 0, -4, 55, 1);
        tell(x, 0, 50, 0, 1, 60, 2);
        tell(x, 2, 50, 1, 0, 40, 3);
        due.is("wrong()", x.wrong(), 3);
    }

    private static void badAheadOfFull() {
        due.by(20, "Of several the first in this order, whatever the order at a call; nothing changes then.");
        SumsThatDiffer x = new SumsThatDiffer();
        for (int i = 1; i <= 6; i++) {
            tell(x, 0, 50, 0, -4, 61, i);
        }
        tell(x, 4, 50, 0, -4, 5, -1);
        tell(x, 0, 1000, 0, -4, 5, -1);
        tell(x, 0, 50, 5, -4, 5, -1);
        tell(x, 0, 50, 1, -4, 5, -1);
        tell(x, 0, 50, 0, -1, 5, -1);
        tell(x, 0, 50, 0, 2, 5, -1);
        tell(x, 0, 50, 0, -4, -1, -1);
        due.is("count(5), as it was", x.count(5), 6);
        due.is("wrong(), as it was", x.wrong(), 31);
    }

    private static void forgetting() {
        due.by(21, "Nothing is TOLD: how many were.");
        SumsThatDiffer x = Due.laid("r0,0,1,25,15;");
        due.is("forget() of none", x.forget(), 0);
        x.tell(0, 50, 0, -4, 5);
        due.is("wrong()", x.wrong(), 0);
        due.is("forget() of one", x.forget(), 1);
        due.is("count(5)", x.count(5), 0);
        due.is("wrong(), nothing is TOLD", x.wrong(), 1);
        due.is("forget() again", x.forget(), 0);
    }

    // ---- promise 22

    private static void nothingIsTold() {
        due.by(22, "all that is TOLD would be so");
        due.is("wrong() of a new one", new SumsThatDiffer().wrong(), 31);
        due.is("wrong() of nine roads", Due.laid("r0,0,1,25,15;".repeat(9)).wrong(), 511);
        due.is("wrong() of no roads", Due.laid("n2;").wrong(), 0);
    }

    private static void oneRoadAlone() {
        due.by(22, "WRONG: ROADS (bits) such that, had that one alone some F and G");
        SumsThatDiffer x = Due.laid("r0,0,1,25,15;r0,1,2,22,18;r0,2,3,20,20;");
        x.tell(0, 50, 0, 1, 58);
        due.is("wrong(), one of two", x.wrong(), 3);
        x.tell(0, 50, 0, -4, 55);
        due.is("wrong(), the first is right", x.wrong(), 2);
        x.tell(2, 50, 2, -4, 51);
        due.is("wrong(), two would be wrong", x.wrong(), 0);
        due.is("road(0, 3), as it was", x.road(0, 3), 25);
        due.is("road(2, 4), as it was", x.road(2, 4), 20);
    }

    private static void figuresFromNoneToForty() {
        due.by(22, "some F and G (0 to 40 each; as they are, too)");
        int[] sums = {29, 30, 49, 50, 51, 55, 69, 70, 71};
        for (int v : sums) {
            SumsThatDiffer x = Due.laid("r0,0,1,25,15;r0,2,3,25,15;");
            x.tell(0, 50, 0, -4, v);
            due.is("wrong(), by F " + v, x.wrong(), v < 30 || v > 70 ? 0 : v == 55 ? 3 : 1);
            SumsThatDiffer y = Due.laid("r0,0,1,25,15;r0,2,3,25,15;");
            y.tell(1, 50, 0, -4, v);
            due.is("wrong(), by G " + v, y.wrong(), v < 30 || v > 70 ? 0 : 1);
        }
        SumsThatDiffer x = Due.laid("r0,0,1,25,15;r0,1,2,22,18;r0,2,3,20,20;");
        x.tell(0, 50, 0, 1, 57);
        x.tell(0, 50, 0, 1, 57);
        x.tell(2, 50, 2, -4, 50);
        due.is("wrong(), all is so as they are", x.wrong(), 7);
        x.tell(0, 50, 0, -4, 54);
        due.is("wrong(), not both", x.wrong(), 0);
    }

    private static void bothWaysOfOneRoad() {
        due.by(22, "some F and G (0 to 40 each");
        SumsThatDiffer x = Due.laid("r0,0,1,25,15;r0,0,1,20,20;");
        x.tell(0, 50, 0, 0, 90);
        due.is("wrong(), 40 more there and back", x.wrong(), 1);
        x.forget();
        x.tell(0, 50, 0, 0, 91);
        due.is("wrong(), 41 more there and back", x.wrong(), 0);
        x.forget();
        x.tell(0, 50, 0, 0, 10);
        due.is("wrong(), 40 less there and back", x.wrong(), 1);
        x.forget();
        x.tell(0, 50, 0, 0, 9);
        due.is("wrong(), 41 less there and back", x.wrong(), 0);
        x.forget();
        x.tell(0, 50, 0, 0, 60);
        x.tell(1, 50, 0, -4, 42);
        due.is("wrong(), 18 there, 8 less back", x.wrong(), 1);
        x.tell(0, 50, 0, -4, 68);
        due.is("wrong(), each way is TOLD", x.wrong(), 1);
        x.tell(1, 50, 0, 0, 60);
        due.is("wrong(), from the other end", x.wrong(), 1);
        x.tell(0, 50, 0, -4, 69);
        due.is("wrong(), one way is not so", x.wrong(), 0);
    }

    private static void cutOnTheWay() {
        due.by(22, "What is below 0 is 0 then, what is above 999 is 999");
        SumsThatDiffer x = Due.laid("r0,0,1,25,15;r0,0,1,20,20;");
        x.tell(0, 0, 0, 0, 20);
        due.is("wrong(), G is 20 at least", x.wrong(), 1);
        due.is("walk(1), from 0 by any F", x.walk(1), 41);
        x.cross(0);
        due.is("walk(1), from 1 by a G of 20 to 40", x.walk(1), 21);
        x.tell(1, 1, 0, 0, 1);
        due.is("wrong(), and from the other end", x.wrong(), 1);
        x.forget();
        x.tell(1, 999, 0, 0, 979);
        due.is("wrong(), cut at 999 between", x.wrong(), 1);
        due.is("walk(1), from 1 by any G", x.walk(1), 41);
        x.undo();
        due.is("walk(1), from 0 by an F of 0 to 20", x.walk(1), 21);
        x.tell(0, 999, 0, -4, 0);
        due.is("wrong(), from 999 to 0", x.wrong(), 0);
        x.forget();
        x.tell(0, 999, 0, -4, 999);
        x.tell(0, 0, 0, -4, 20);
        due.is("wrong(), from 999 to 999, from 0 to 20", x.wrong(), 1);
        x.tell(0, 0, 0, -4, 0);
        due.is("wrong(), from 0 to 0 as well", x.wrong(), 0);
    }

    private static void wrongByKinds() {
        due.by(22, "by a BRIDGE, it is rounded to the nearest");
        SumsThatDiffer x = Due.laid("r1,0,1,20,20;r3,0,1,20,20;r2,0,1,20,20;");
        wrong(x, 0, 53, 0);
        wrong(x, 0, 55, 1);
        wrong(x, 0, 30, 1);
        wrong(x, 0, 70, 1);
        wrong(x, 0, 75, 0);
        due.by(22, "by a DOUBLE one it changes by as much a second time");
        wrong(x, 1, 55, 0);
        wrong(x, 1, 90, 2);
        wrong(x, 1, 92, 0);
        wrong(x, 1, 10, 2);
        wrong(x, 1, 8, 0);
        due.by(22, "by a TOLL it is 1 less");
        wrong(x, 2, 70, 0);
        wrong(x, 2, 69, 4);
        wrong(x, 2, 29, 4);
        wrong(x, 2, 28, 0);
        wrong(x, 2, 49, 7);
    }

    private static void wrong(SumsThatDiffer x, int r, int v, int want) {
        x.forget();
        x.tell(0, 50, r, -4, v);
        due.is("wrong(), by road " + r + " to " + v, x.wrong(), want);
    }

    private static void allOthersAsTheyAre() {
        due.by(22, "had that one alone some F and G");
        SumsThatDiffer x = Due.laid("r0,0,1,25,15;r0,1,2,22,18;r0,2,3,20,20;");
        x.tell(0, 50, 0, 1, 60);
        x.tell(2, 50, 2, -4, 51);
        due.is("wrong(), two would be", x.wrong(), 0);
        x.mend(2, 21, 19);
        due.is("wrong(), one of them is MENDED", x.wrong(), 3);
        x.mend(1, 25, 0);
        due.is("wrong(), all is so by what is MENDED", x.wrong(), 7);
        x.undo();
        due.is("wrong(), that is UNDONE", x.wrong(), 3);
    }

    private static void shutOnesAreWrongToo() {
        due.by(22, "SHUT or not");
        SumsThatDiffer x = Due.laid("r0,0,1,25,15;r0,1,2,22,18;");
        x.shut(0, true);
        x.shut(1, true);
        due.is("wrong(), nothing is TOLD", x.wrong(), 3);
        x.tell(0, 50, 0, -4, 56);
        due.is("wrong()", x.wrong(), 1);
    }

    // ---- promise 23

    private static void walk(String call, SumsThatDiffer x, int road, int sums) {
        due.is("walk(0), " + call, x.walk(0), road);
        due.is("walk(1), " + call, x.walk(1), sums);
    }

    private static void mostUnlikeSums() {
        due.by(23, "WALK: of ROADS that can be crossed from where one is that one behind which there could be most unlike sums");
        SumsThatDiffer x = Due.laid("r1,0,1,25,15;r0,0,2,22,18;r0,3,0,20,20;r2,2,3,20,20;");
        walk("30 to 70 by a bridge are 9, by a plain one 41", x, 1, 41);
        due.is("at(1), nothing was crossed", x.at(1), 50);
        x.shut(1, true);
        walk("one is SHUT", x, 2, 41);
        x.shut(2, true);
        walk("a bridge alone", x, 0, 9);
        x.cross(0);
        walk("the bridge alone, from its other end", x, 0, 9);
        walk("a DOUBLE one", Due.laid("r3,0,1,25,15;"), 0, 41);
        walk("a TOLL", Due.laid("r2,0,1,25,15;"), 0, 41);
        walk("by the road of one's own place alone", Due.laid("r0,2,3,25,15;r1,0,1,25,15;"), 1, 9);
    }

    private static void walkByLowestOfSeveral() {
        due.by(23, "of several the lowest: it; how many; none.");
        walk("all alike", Due.laid("r0,0,1,25,15;".repeat(9)), 0, 41);
        SumsThatDiffer x = Due.laid("r0,2,3,25,15;r1,0,1,25,15;r0,0,1,25,15;r0,1,0,25,15;");
        walk("2 and 3", x, 2, 41);
        x.tell(2, 50, 0, -4, 56);
        walk("road 0 is WRONG, the others have one sum each", x, 1, 1);
    }

    private static void walkByWhatIsTold() {
        due.by(23, "one ROAD of WRONG having any F and G by which all that is TOLD is so, all others as they are");
        SumsThatDiffer x = Due.laid("r0,0,1,25,15;r0,1,2,22,18;r0,0,3,20,20;");
        x.tell(0, 50, 0, 1, 60);
        walk("road 0 as it is, or F of 28", x, 0, 2);
        x.tell(0, 0, 0, -4, 5);
        walk("road 1 is the WRONG one", x, 0, 1);
        x.cross(0);
        walk("from 1 road 0 is as it is, road 1 has F 25, any G", x, 0, 1);
        SumsThatDiffer y = Due.laid("r0,0,1,25,15;r0,0,1,20,20;");
        y.tell(0, 0, 0, -4, 6);
        walk("one way is TOLD, the sum is 56 alone", y, 0, 1);
        y.cross(0);
        walk("back by it there could be 41", y, 0, 41);
        y.tell(1, 0, 0, -4, 0);
        walk("back it is cut to 0: F 26, G up to 20", y, 0, 21);
        y.tell(1, 10, 0, -4, 5);
        walk("back it is 15", y, 0, 1);
    }

    private static void walkThereAndBack() {
        due.by(23, "having any F and G by which all that is TOLD is so");
        SumsThatDiffer x = Due.laid("r0,0,1,25,15;r0,1,2,22,18;r0,0,3,20,20;");
        x.tell(0, 50, 0, 0, 50);
        walk("there and back: road 0 could have each", x, 0, 41);
        x.forget();
        x.tell(0, 50, 0, 0, 60);
        walk("10 more there and back: F 10 to 40", x, 0, 31);
        x.cross(0);
        walk("10 more there and back: G 10 to 40", x, 0, 31);
        x.undo();
        x.forget();
        x.tell(0, 50, 0, 0, 50);
        x.tell(1, 50, 0, -4, 45);
        walk("back is known: others could be, but not road 0", x, 2, 41);
        x.shut(2, true);
        walk("so road 0 has one sum", x, 0, 1);
    }

    private static void walkCutAtItsBounds() {
        due.by(23, "most unlike sums");
        walk("from 0: 0 to 20", Due.having(0, "r0,0,1,25,15;"), 1, 21);
        walk("from 5: 0 to 25", Due.having(5, "r0,0,1,25,15;"), 1, 26);
        walk("from 20: 0 to 40", Due.having(20, "r0,0,1,25,15;"), 1, 41);
        walk("from 979: 959 to 999", Due.having(979, "r0,0,1,25,15;"), 1, 41);
        walk("from 980: 960 to 999", Due.having(980, "r0,0,1,25,15;"), 1, 40);
        walk("from 999: 979 to 999", Due.having(999, "r0,0,1,25,15;"), 1, 21);
        walk("from 999 by a TOLL: 978 to 999", Due.having(999, "r2,0,1,25,15;"), 1, 22);
        walk("from 0 by a TOLL: 0 to 19", Due.having(0, "r2,0,1,25,15;"), 1, 20);
        walk("from 999 by a bridge: 980, 985, 990, 995, 999", Due.having(999, "r1,0,1,25,15;"), 1, 5);
        walk("from 999 by a DOUBLE one: 959, 961, .. 999", Due.having(999, "r3,0,1,25,15;"), 1, 21);
        walk("from 998 by a DOUBLE one: 958, 960, .. 998, 999", Due.having(998, "r3,0,1,25,15;"), 1, 22);
    }

    private static void asItIsByAnother() {
        due.by(23, "all others as they are");
        SumsThatDiffer x = Due.laid("r0,0,1,25,15;r0,1,2,22,18;");
        x.tell(0, 50, 0, 1, 56);
        walk("F of 24, or 25 as it is", x, 0, 2);
        x.forget();
        x.tell(0, 50, 0, 1, 57);
        walk("as they are: F 25 alone", x, 0, 1);
        x.forget();
        x.tell(0, 15, 0, 1, 1);
        walk("by no F 1 is behind road 1, which is WRONG alone", x, 0, 1);
        SumsThatDiffer low = Due.laid("r0,0,1,25,15;r0,1,2,21,19;s0,15;");
        low.tell(0, 5, 0, 1, 1);
        walk("F 0 to 15: 0 to 10 from 15; or 20 as it is, road 1 having F 11", low, 0, 12);
        low.tell(1, 50, 1, -4, 51);
        walk("road 1 is as it is: 0 to 10", low, 0, 11);
    }

    private static void noWalk() {
        due.by(23, "NONE (none can be crossed, none is WRONG); BAD.");
        SumsThatDiffer x = Due.laid("r0,0,1,25,15;r0,1,2,25,15;");
        x.shut(0, true);
        walk("its ROAD is SHUT", x, -4, -4);
        x.shut(0, false);
        walk("it is opened", x, 0, 41);
        x.tell(1, 50, 1, -4, 60);
        walk("another is WRONG", x, 0, 1);
        x.tell(0, 50, 0, -4, 60);
        walk("none is WRONG", x, -4, -4);
        x.shut(0, true);
        walk("both", x, -4, -4);
        walk("no ROAD ends there", Due.laid("r0,1,2,25,15;"), -4, -4);
        walk("no roads", Due.laid("n2;"), -4, -4);
    }

    private static void badWalks() {
        due.by(23, "BAD: a number is none that is told");
        SumsThatDiffer x = Due.laid("r0,0,1,25,15;");
        SumsThatDiffer none = Due.laid("n2;");
        int[] bad = {-1, 2, Integer.MIN_VALUE, Integer.MAX_VALUE};
        for (int what : bad) {
            due.is("walk(" + what + ")", x.walk(what), -1);
            due.is("walk(" + what + "), ahead of NONE", none.walk(what), -1);
        }
    }
}
