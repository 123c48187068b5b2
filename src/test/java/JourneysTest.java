/** Promises 12 to 14 and 24: THE JOURNEY, MOST, ROUND, BY TURNS. */
public final class JourneysTest {
    private static final Due due = new Due("JourneysTest");

    public static void main(String[] args) {
        behindEachRoad();
        noneOnTheWay();
        nineRoadsOfIt();
        badJourneys();

        mostInSoMany();
        fewestForTheMost();
        mostByStaying();
        mostWithinBounds();
        badMosts();

        roundOfTwoToFive();
        roundByTheMost();
        roundOfFewest();
        roundByTheFirstRoads();
        roundOfFewerRoads();
        noRound();
        badRounds();

        turnsByKinds();
        turnsCut();
        turnsAtTheirMost();
        noTurns();
        due.end(12, 13, 14, 24);
    }

    // ---- promise 12

    private static void behindEachRoad() {
        due.by(12, "where one is behind the k-th ROAD of it (0: now), with what sum");
        SumsThatDiffer x = Due.laid("r0,0,1,25,15;r1,1,2,22,18;r3,2,3,15,25;s0,51;j0;j1;j2;");
        int[] places = {0, 1, 2, 3};
        int[] sums = {51, 56, 60, 50};
        for (int k = 0; k <= 3; k++) {
            due.is("journey(" + k + ", 0)", x.journey(k, 0), places[k]);
            due.is("journey(" + k + ", 1)", x.journey(k, 1), sums[k]);
        }
        due.is("at(0), nothing was crossed", x.at(0), 0);
        due.is("count(4), nothing was crossed", x.count(4), 0);
        SumsThatDiffer twice = Due.laid("r2,0,1,25,15;s0,3;j0;j0;j0;");
        int[] there = {3, 7, 1, 5};
        for (int k = 0; k <= 3; k++) {
            due.is("journey(" + k + ", 1), there and back", twice.journey(k, 1), there[k]);
        }
        twice.cross(0);
        due.is("journey(0, 0), from now", twice.journey(0, 0), 1);
        due.is("journey(1, 1), from now", twice.journey(1, 1), 1);
        twice.mend(0, 20, 40);
        due.is("journey(1, 1), MENDED", twice.journey(1, 1), 26);
    }

    private static void noneOnTheWay() {
        due.by(12, "none (one of these ROADS can not be crossed from where one has come)");
        SumsThatDiffer x = Due.laid("r0,0,1,25,15;r0,1,2,22,18;r0,2,3,15,25;j0;j1;j2;");
        for (int shut = 0; shut < 3; shut++) {
            x.shut(shut, true);
            for (int k = 0; k <= 3; k++) {
                due.is("journey(" + k + ", 0), " + shut + " is SHUT", x.journey(k, 0), k <= shut ? k : -4);
                due.is("journey(" + k + ", 1) is none, " + shut + " is SHUT", x.journey(k, 1) == -4 ? 1 : 0, k <= shut ? 0 : 1);
            }
            x.shut(shut, false);
        }
        x.cross(0);
        due.is("journey(1, 0), home by road 0", x.journey(1, 0), 0);
        due.is("journey(2, 0), road 1 does not end there", x.journey(2, 0), -4);
        due.is("journey(3, 1), nor behind it", x.journey(3, 1), -4);
        x.cross(1);
        due.is("journey(0, 0) is none never", x.journey(0, 0), 2);
        due.is("journey(1, 0), road 0 does not end there", x.journey(1, 0), -4);
    }

    private static void nineRoadsOfIt() {
        due.by(12, "(told ahead); 9 at most");
        SumsThatDiffer x = Due.laid("r0,0,1,21,21;j0;j0;j0;j0;j0;j0;j0;j0;j0;");
        due.is("journey(8, 1)", x.journey(8, 1), 58);
        due.is("journey(9, 0)", x.journey(9, 0), 1);
        due.is("journey(9, 1)", x.journey(9, 1), 59);
        due.is("journey(10, 1)", x.journey(10, 1), -1);
    }

    private static void badJourneys() {
        due.by(12, "BAD: a number is none that is told (PLACES, ROADS: such as there are)");
        SumsThatDiffer x = Due.laid("r0,0,1,25,15;r0,1,2,22,18;j0;j1;");
        int[][] bad = {{-1, 0}, {3, 0}, {3, 1}, {0, -1}, {0, 2}, {Integer.MIN_VALUE, 0}, {Integer.MAX_VALUE, 1},
            {1, Integer.MIN_VALUE}, {1, Integer.MAX_VALUE}, {3, 2}};
        for (int[] b : bad) {
            due.is("journey(" + b[0] + ", " + b[1] + ")", x.journey(b[0], b[1]), -1);
        }
        x.shut(0, true);
        due.is("journey(2, 2), ahead of NONE", x.journey(2, 2), -1);
        due.is("journey(2, -1), ahead of NONE", x.journey(2, -1), -1);
        due.is("journey(3, 0), ahead of NONE", x.journey(3, 0), -1);
        SumsThatDiffer y = Due.laid("n2;");
        due.is("journey(0, 0), there is none", y.journey(0, 0), 0);
        due.is("journey(0, 1), there is none", y.journey(0, 1), 50);
        due.is("journey(1, 0), there is none", y.journey(1, 0), -1);
    }

    // ---- promise 13

    private static void mosts(SumsThatDiffer x, int[] sums, int[] crossings) {
        for (int n = 0; n <= 5; n++) {
            due.is("most(" + n + ", 0)", x.most(n, 0), sums[n]);
            due.is("most(" + n + ", 1)", x.most(n, 1), crossings[n]);
        }
    }

    private static void mostInSoMany() {
        due.by(13, "MOST in n (0 to 5) crossings from now on: the greatest sum behind n or fewer");
        SumsThatDiffer x = Due.laid("r0,0,1,30,0;r0,1,2,10,0;r0,2,3,40,0;");
        mosts(x, new int[] {50, 60, 60, 70, 70, 70}, new int[] {0, 1, 1, 3, 3, 3});
        due.is("count(4), nothing was crossed", x.count(4), 0);
        x.shut(2, true);
        mosts(x, new int[] {50, 60, 60, 60, 60, 60}, new int[] {0, 1, 1, 1, 1, 1});
        x.shut(0, true);
        mosts(x, new int[] {50, 50, 50, 50, 50, 50}, new int[6]);
        SumsThatDiffer far = Due.laid("n6;r0,0,1,20,20;r0,1,2,20,20;r0,2,3,20,20;r0,3,4,20,20;r0,4,5,21,19;");
        mosts(far, new int[] {50, 50, 50, 50, 50, 51}, new int[] {0, 0, 0, 0, 0, 5});
        far.mend(0, 19, 21);
        mosts(far, new int[] {50, 50, 50, 50, 50, 50}, new int[6]);
    }

    private static void fewestForTheMost() {
        due.by(13, "the fewest crossings for it");
        SumsThatDiffer x = Due.laid("n2;r0,0,1,10,35;");
        mosts(x, new int[] {50, 50, 55, 55, 60, 60}, new int[] {0, 0, 2, 2, 4, 4});
        SumsThatDiffer like = Due.laid("r0,0,1,20,20;r0,1,2,25,15;r0,0,3,25,15;");
        mosts(like, new int[] {50, 55, 55, 55, 55, 55}, new int[] {0, 1, 1, 1, 1, 1});
    }

    private static void mostByStaying() {
        due.by(13, "(0 to 5)");
        mosts(Due.laid("r0,0,1,10,10;"), new int[] {50, 50, 50, 50, 50, 50}, new int[6]);
        mosts(Due.laid("n2;"), new int[] {50, 50, 50, 50, 50, 50}, new int[6]);
        mosts(Due.laid("r0,1,2,40,40;"), new int[] {50, 50, 50, 50, 50, 50}, new int[6]);
        mosts(Due.having(0, "r0,0,1,0,0;"), new int[6], new int[6]);
    }

    private static void mostWithinBounds() {
        due.by(13, "One is at a PLACE with a sum (0 to 999)");
        mosts(Due.having(999, "r3,0,1,40,40;"), new int[] {999, 999, 999, 999, 999, 999}, new int[6]);
        mosts(Due.having(899, "r3,0,1,40,40;"), new int[] {899, 939, 979, 999, 999, 999}, new int[] {0, 1, 2, 3, 3, 3});
        mosts(Due.having(998, "r0,0,1,21,40;"), new int[] {998, 999, 999, 999, 999, 999}, new int[] {0, 1, 1, 1, 1, 1});
        // by road 1 one is at 0 first and has 10 then, by road 2 one would have 5
        mosts(Due.having(3, "r0,0,1,0,30;r0,0,2,22,20;"), new int[] {3, 5, 10, 12, 12, 14}, new int[] {0, 1, 2, 3, 3, 5});
    }

    private static void badMosts() {
        due.by(13, "BAD: a number is none that is told");
        SumsThatDiffer x = new SumsThatDiffer();
        int[][] bad = {{-1, 0}, {6, 0}, {0, -1}, {5, 2}, {6, 2}, {Integer.MIN_VALUE, 1}, {Integer.MAX_VALUE, 1},
            {5, Integer.MIN_VALUE}, {0, Integer.MAX_VALUE}};
        for (int[] b : bad) {
            due.is("most(" + b[0] + ", " + b[1] + ")", x.most(b[0], b[1]), -1);
        }
    }

    // ---- promise 14

    private static void rounds(SumsThatDiffer x, int... want) {
        for (int k = 0; k <= 5; k++) {
            due.is("round(" + k + ")", x.round(k), want[k]);
        }
    }

    private static void roundOfTwoToFive() {
        due.by(14, "of rows of 2 to 5 crossings from now on behind which one is where one is now");
        rounds(Due.having(998, "r0,0,1,21,20;"), 1, 1, 1, -4, -4, -4);
        rounds(Due.laid("r0,0,1,30,10;r0,1,2,22,18;r0,2,0,18,22;"), 10, 0, 1, 2, -4, -4);
        rounds(Due.laid("r0,0,1,21,19;r0,1,2,21,19;r0,2,3,21,19;r0,3,0,21,19;"), 4, 0, 1, 2, 3, -4);
        rounds(Due.laid("n5;r0,0,1,21,19;r0,1,2,21,19;r0,2,3,21,19;r0,3,4,21,19;r0,4,0,21,19;"), 5, 0, 1, 2, 3, 4);
        rounds(Due.laid("n6;r0,0,1,21,19;r0,1,2,21,19;r0,2,3,21,19;r0,3,4,21,19;r0,4,5,21,19;r0,5,0,21,19;"),
                -4, -4, -4, -4, -4, -4);
        SumsThatDiffer x = Due.laid("r0,0,1,30,10;r0,1,2,22,18;r0,2,0,18,22;");
        x.round(0);
        due.is("count(4), nothing was crossed", x.count(4), 0);
        x.cross(0);
        rounds(x, 10, 1, 2, 0, -4, -4);
    }

    private static void roundByTheMost() {
        due.by(14, "that one by which the sum is most more than now");
        rounds(Due.laid("r0,0,1,20,20;r0,1,2,20,20;r0,2,0,30,10;r0,0,3,30,20;"), 20, 3, 3, 3, 3, -4);
        rounds(Due.laid("n5;r0,0,1,20,21;r0,0,2,22,20;r0,2,3,22,18;r0,3,4,22,18;r0,4,0,22,18;"), 8, 1, 2, 3, 4, -4);
        rounds(Due.laid("n2;r0,0,1,15,24;r0,0,1,24,15;r2,1,0,25,25;"), 16, 1, 0, 1, 0, -4);
        rounds(Due.laid("r0,0,1,21,19;r1,0,1,21,22;"), 10, 0, 1, 0, 1, -4);
    }

    private static void roundOfFewest() {
        due.by(14, "of several the one of fewest crossings");
        rounds(Due.having(990, "r0,0,1,24,20;r0,1,2,25,15;r0,2,0,24,16;r0,0,3,30,20;"), 9, 4, 4, -4, -4, -4);
        rounds(Due.having(995, "r0,0,1,20,20;r0,1,2,20,20;r0,2,0,40,20;r0,0,2,20,20;"), 4, 3, 3, -4, -4, -4);
        rounds(Due.having(0, "r0,0,1,0,40;r0,0,2,0,40;r0,0,3,20,20;"), 20, 1, 1, -4, -4, -4);
    }

    private static void roundByTheFirstRoads() {
        due.by(14, "then the first (by the first ROAD, then the second, ..)");
        rounds(Due.having(998, "r0,0,1,21,20;r0,0,1,20,21;"), 1, 1, 1, -4, -4, -4);
        rounds(Due.having(998, "r0,0,1,21,19;r0,0,1,20,20;"), 1, 1, 2, -4, -4, -4);
        rounds(Due.having(997, "r0,0,1,18,19;r0,0,2,20,21;r0,0,2,21,20;r0,0,1,21,22;"), 2, 3, 2, -4, -4, -4);
        rounds(Due.laid("r0,0,1,20,20;r0,0,1,25,15;r0,0,1,15,25;r0,0,1,25,25;r0,0,1,25,25;"), 20, 1, 2, 1, 2, -4);
        // 2, 4 and 3, 1 alone lead to 999: the first ROAD counts ahead of the second
        rounds(Due.having(998, "r0,1,0,21,18;r0,0,2,20,19;r0,0,1,20,19;r0,2,0,21,18;"), 1, 2, 4, -4, -4, -4);
    }

    private static void roundOfFewerRoads() {
        due.by(14, "the k-th ROAD (1 to 5; NONE: there are not so many)");
        SumsThatDiffer x = Due.having(998, "r0,0,1,21,20;");
        due.is("round(2)", x.round(2), 1);
        due.is("round(3)", x.round(3), -4);
        due.is("round(5)", x.round(5), -4);
        due.is("round(6)", x.round(6), -1);
    }

    private static void noRound() {
        due.by(14, "none (by none it is more)");
        rounds(Due.laid("r0,0,1,30,10;"), -4, -4, -4, -4, -4, -4);
        rounds(Due.laid("r0,0,1,30,9;"), -4, -4, -4, -4, -4, -4);
        rounds(Due.laid("n2;"), -4, -4, -4, -4, -4, -4);
        rounds(Due.laid("r0,1,2,40,40;"), -4, -4, -4, -4, -4, -4);
        rounds(Due.having(999, "r0,0,1,40,40;"), -4, -4, -4, -4, -4, -4);
        SumsThatDiffer gain = Due.laid("r0,0,1,30,11;");
        rounds(gain, 2, 0, 0, 0, 0, -4);
        gain.shut(0, true);
        rounds(gain, -4, -4, -4, -4, -4, -4);
    }

    private static void badRounds() {
        due.by(14, "NONE; BAD.");
        SumsThatDiffer gain = Due.laid("r0,0,1,30,11;");
        SumsThatDiffer none = Due.laid("n2;");
        int[] bad = {-1, 6, Integer.MIN_VALUE, Integer.MAX_VALUE};
        for (int k : bad) {
            due.is("round(" + k + ")", gain.round(k), -1);
            due.is("round(" + k + "), ahead of NONE", none.round(k), -1);
        }
    }

    // ---- promise 24

    private static void turns(SumsThatDiffer x, int difference, int half) {
        due.is("byTurns(0)", x.byTurns(0), 5000 + difference);
        due.is("byTurns(1)", x.byTurns(1), 5000 + half);
    }

    private static void turnsByKinds() {
        due.by(24, "what all CHANGES on it are together, less what the sum is more at its end, and 5000");
        turns(Due.laid("r0,0,1,25,15;j0;"), 0, 0);
        turns(Due.laid("r3,0,1,30,15;j0;j0;"), 0, 0);
        turns(Due.laid("n2;"), 0, 0);
        turns(Due.laid("r2,0,1,25,15;j0;j0;j0;j0;"), 4, 2);
        SumsThatDiffer bridge = Due.laid("r1,0,1,23,15;s0,50;j0;");
        turns(bridge, -2, -1);
        bridge.cross(0);
        turns(bridge, 0, 0);
        bridge.mend(0, 23, 17);
        turns(bridge, 2, 1);
        due.is("count(4), nothing was crossed by it", bridge.count(4), 1);
    }

    private static void turnsCut() {
        due.by(24, "half of that difference, cut toward 0, and 5000");
        turns(Due.laid("r2,0,1,25,15;j0;"), 1, 0);
        turns(Due.laid("r2,0,1,25,15;j0;j0;j0;"), 3, 1);
        turns(Due.laid("r0,0,1,19,25;s0,0;j0;"), -1, 0);
        turns(Due.laid("r0,0,1,17,25;s0,0;j0;"), -3, -1);
        turns(Due.laid("r0,0,1,15,25;s0,0;j0;"), -5, -2);
    }

    private static void turnsAtTheirMost() {
        due.by(24, "two books of THE JOURNEY from now");
        String nine = "j0;".repeat(9);
        turns(Due.laid("r3,0,1,0,0;s0,0;" + nine), -360, -180);
        turns(Due.laid("r0,0,1,0,40;s0,0;" + nine), -20, -10);
        turns(Due.having(999, "r3,0,1,40,40;j1;j1;j1;j1;j1;j1;j1;j1;j1;"), 360, 180);
        turns(Due.having(999, "r2,0,1,40,40;j1;j1;j1;j1;j1;j1;j1;j1;j1;"), 180, 90);
    }

    private static void noTurns() {
        due.by(24, "NONE: THE JOURNEY can not be gone; BAD.");
        SumsThatDiffer x = Due.laid("r0,0,1,25,15;r0,1,2,25,15;j0;j1;");
        x.shut(1, true);
        due.is("byTurns(0), its last ROAD is SHUT", x.byTurns(0), -4);
        due.is("byTurns(1), its last ROAD is SHUT", x.byTurns(1), -4);
        int[] bad = {-1, 2, Integer.MIN_VALUE, Integer.MAX_VALUE};
        for (int what : bad) {
            due.is("byTurns(" + what + "), ahead of NONE", x.byTurns(what), -1);
        }
        x.shut(1, false);
        turns(x, 0, 0);
        for (int what : bad) {
            due.is("byTurns(" + what + ")", x.byTurns(what), -1);
        }
        x.cross(0);
        due.is("byTurns(0), its second ROAD does not end there", x.byTurns(0), -4);
        x.cross(1);
        due.is("byTurns(0), its first ROAD does not end there", x.byTurns(0), -4);
    }
}
