/** Promises 12 to 14 and 24: THE JOURNEY, MOST, ROUND, BY TURNS. */
public final class JourneysTest {
    private static final Due due = new Due("JourneysTest");

    public static void main(String[] args) {
        journey();
        most();
        roundAnswers();
        roundOfSeveral();
        roundIsNone();
        byTurns();
        due.end();
    }

    private static void journey() {
        SumsThatDiffer x = Due.laid("r0,0,1,25,15;r1,1,2,22,18;r3,2,3,15,25;s0,51;j0;j1;j2;");
        int[] places = {0, 1, 2, 3};
        int[] sums = {51, 56, 60, 50};
        for (int k = 0; k <= 3; k++) {
            due.is("journey(" + k + ", 0)", x.journey(k, 0), places[k]);
            due.is("journey(" + k + ", 1)", x.journey(k, 1), sums[k]);
        }
        due.is("not gone", x.at(0), 0);
        int[][] bad = {{-1, 0}, {4, 0}, {0, -1}, {0, 2}};
        for (int[] b : bad) {
            due.is("journey(" + b[0] + ", " + b[1] + ")", x.journey(b[0], b[1]), -1);
        }
        x.shut(1, true);
        due.is("up to the shut road", x.journey(1, 1), 56);
        due.is("over the shut road", x.journey(2, 1), -4);
        due.is("behind it", x.journey(3, 0), -4);
        due.is("bad ahead of none", x.journey(3, 2), -1);
        x.shut(1, false);
        x.cross(0);
        due.is("from where one is now", x.journey(0, 0), 1);
        due.is("road 0 leads home", x.journey(1, 0), 0);
        due.is("then road 1 is not there", x.journey(2, 0), -4);
        SumsThatDiffer y = Due.laid("n2;");
        due.is("no journey, now", y.journey(0, 1), 50);
        due.is("no journey, first", y.journey(1, 1), -1);
    }

    private static void most() {
        SumsThatDiffer x = Due.laid("r0,0,1,30,0;r0,1,2,10,0;r0,2,3,40,0;");
        int[] sums = {50, 60, 60, 70, 70, 70};
        int[] crossings = {0, 1, 1, 3, 3, 3};
        for (int n = 0; n <= 5; n++) {
            due.is("most(" + n + ", 0)", x.most(n, 0), sums[n]);
            due.is("most(" + n + ", 1)", x.most(n, 1), crossings[n]);
        }
        int[][] bad = {{-1, 0}, {6, 0}, {0, -1}, {0, 2}};
        for (int[] b : bad) {
            due.is("most(" + b[0] + ", " + b[1] + ")", x.most(b[0], b[1]), -1);
        }
        x.shut(2, true);
        due.is("most without the last road", x.most(5, 0), 60);
        SumsThatDiffer from0 = Due.laid("n2;r0,0,1,10,35;s0,50;");
        due.is("most behind two, at place 0", from0.most(2, 0), 55);
        due.is("most behind two of five, at place 0", from0.most(5, 0), 60);
        due.is("most at place 0, crossings", from0.most(5, 1), 4);
        due.is("most of two again", from0.most(2, 1), 2);
        SumsThatDiffer y = Due.laid("r0,0,1,10,10;");
        due.is("most by staying", y.most(5, 0), 50);
        due.is("most by staying, crossings", y.most(5, 1), 0);
        SumsThatDiffer two = Due.laid("r3,0,1,40,0;r3,1,2,40,0;s0,99;");
        due.is("most by two doubles", two.most(5, 0), 179);
        SumsThatDiffer near = Due.laid("r3,0,1,40,40;s0,99;");
        for (int i = 0; i < 20; i++) {
            near.cross(0);
        }
        due.is("899 and 40, 40, 20", near.most(5, 0), 999);
        due.is("899 and 40, 40, 20: three", near.most(5, 1), 3);
    }

    private static void rounds(SumsThatDiffer x, int[] want) {
        for (int k = 0; k <= 5; k++) {
            due.is("round(" + k + ")", x.round(k), want[k]);
        }
    }

    private static void roundAnswers() {
        SumsThatDiffer x = Due.laid("r0,0,1,30,10;r0,1,2,22,18;r0,2,0,18,22;");
        rounds(x, new int[] {10, 0, 1, 2, -4, -4});
        due.is("round(-1)", x.round(-1), -1);
        due.is("round(6)", x.round(6), -1);
        due.is("not gone", x.count(4), 0);
        SumsThatDiffer long5 = Due.laid("n5;r0,0,1,21,19;r0,1,2,21,19;r0,2,3,21,19;r0,3,4,21,19;r0,4,0,21,19;");
        rounds(long5, new int[] {5, 0, 1, 2, 3, 4});
        SumsThatDiffer long6 = Due.laid("n6;r0,0,1,21,19;r0,1,2,21,19;r0,2,3,21,19;r0,3,4,21,19;r0,4,5,21,19;r0,5,0,21,19;");
        rounds(long6, new int[] {-4, -4, -4, -4, -4, -4});
        due.is("round(6) where there is none", long6.round(6), -1);
    }

    private static void roundOfSeveral() {
        SumsThatDiffer shorter = Due.laid("r0,0,1,20,20;r0,1,2,20,20;r0,2,0,30,10;r0,0,3,30,20;");
        rounds(shorter, new int[] {20, 3, 3, 3, 3, -4});
        SumsThatDiffer cut = Due.laid("r0,0,1,0,40;r0,0,2,0,40;r0,0,3,20,20;s0,0;");
        rounds(cut, new int[] {20, 0, 0, -4, -4, -4});
        SumsThatDiffer first = Due.laid("r0,0,1,20,20;r0,0,1,25,15;r0,0,1,15,25;r0,0,1,25,25;r0,0,1,25,25;");
        rounds(first, new int[] {20, 1, 2, 1, 2, -4});
        SumsThatDiffer kinds = Due.laid("n2;r0,0,1,15,24;r0,0,1,24,15;r2,1,0,25,25;");
        rounds(kinds, new int[] {16, 1, 0, 1, 0, -4});
        SumsThatDiffer bridge = Due.laid("r0,0,1,21,19;r1,0,1,21,22;");
        rounds(bridge, new int[] {10, 0, 1, 0, 1, -4});
    }

    private static void roundIsNone() {
        SumsThatDiffer even = Due.laid("r0,0,1,30,10;");
        rounds(even, new int[] {-4, -4, -4, -4, -4, -4});
        SumsThatDiffer alone = Due.laid("n2;");
        rounds(alone, new int[] {-4, -4, -4, -4, -4, -4});
        SumsThatDiffer gain = Due.laid("r0,0,1,30,11;");
        rounds(gain, new int[] {2, 0, 0, 0, 0, -4});
        gain.shut(0, true);
        rounds(gain, new int[] {-4, -4, -4, -4, -4, -4});
    }

    private static void byTurns() {
        due.is("plain roads", Due.laid("r0,0,1,25,15;j0;").byTurns(0), 5000);
        SumsThatDiffer toll = Due.laid("r2,0,1,25,15;j0;j0;j0;");
        due.is("three tolls", toll.byTurns(0), 5003);
        due.is("half of three", toll.byTurns(1), 5001);
        SumsThatDiffer cut = Due.laid("r0,0,1,15,25;s0,0;j0;");
        due.is("changes of -5, the sum no less", cut.byTurns(0), 4995);
        due.is("half of -5, cut toward 0", cut.byTurns(1), 4998);
        SumsThatDiffer twice = Due.laid("r3,0,1,30,15;j0;j0;");
        due.is("doubles change by twice that", twice.byTurns(0), 5000);
        SumsThatDiffer bridge = Due.laid("r1,0,1,23,15;s0,50;j0;");
        due.is("3 by a bridge is 5", bridge.byTurns(0), 4998);
        due.is("half of -2", bridge.byTurns(1), 4999);
        bridge.cross(0);
        due.is("from now: 55, -5 back by a bridge", bridge.byTurns(0), 5000);
        due.is("byTurns(2)", bridge.byTurns(2), -1);
        due.is("byTurns(-1)", bridge.byTurns(-1), -1);
        bridge.shut(0, true);
        due.is("it can not be gone", bridge.byTurns(0), -4);
        due.is("bad ahead of none", bridge.byTurns(2), -1);
        due.is("no journey", Due.laid("n2;").byTurns(1), 5000);
    }
}
