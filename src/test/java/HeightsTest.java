/** Promises 15 to 19: HEIGHTS agree, heights, RING, FEWEST, THIRD. */
public final class HeightsTest {
    private static final Due due = new Due("HeightsTest");
    private static final String SQUARE = "n5;r0,0,1,25,15;r1,1,2,22,18;r2,2,3,18,22;r3,3,0,18,22;";

    public static void main(String[] args) {
        agreeing();
        heightsOfPlaces();
        rings();
        fewest();
        thirds();
        due.end();
    }

    private static void agreeing() {
        SumsThatDiffer x = Due.laid(SQUARE);
        due.is("5 2 -2 -4: they do not agree", x.agree(), 0);
        x.mend(3, 17, 23);
        due.is("a double one -6", x.agree(), 0);
        x.mend(0, 24, 16);
        due.is("4 2 -2 -6", x.agree(), 0);
        x.mend(3, 18, 22);
        due.is("4 2 -2 -4", x.agree(), 1);
        x.mend(3, 18, 21);
        due.is("back by one that is unlike", x.agree(), 0);
        x.shut(3, true);
        due.is("it is shut", x.agree(), 1);
        due.is("no roads", Due.laid("n2;").agree(), 1);
        due.is("two roads alike", Due.laid("r0,0,1,25,15;r1,1,0,15,25;").agree(), 1);
        due.is("two roads unlike", Due.laid("r0,0,1,25,15;r1,1,0,16,24;").agree(), 0);
    }

    private static void heightsOfPlaces() {
        SumsThatDiffer x = Due.laid("n6;r0,2,1,25,15;r3,1,4,18,22;r0,5,3,30,10;");
        int[] heights = {1100, 1100, 1095, 1100, 1096, 1090};
        for (int p = 0; p < 6; p++) {
            due.is("height(" + p + ")", x.height(p), heights[p]);
        }
        due.is("height(-1)", x.height(-1), -1);
        due.is("height(6)", x.height(6), -1);
        x.shut(0, true);
        due.is("2 alone", x.height(2), 1100);
        x.mend(1, 18, 21);
        due.is("they do not agree", x.height(0), -4);
        due.is("bad ahead of none", x.height(6), -1);
        SumsThatDiffer far = Due.laid("n6;r3,0,1,0,40;r3,1,2,0,40;r3,2,3,0,40;r3,3,4,0,40;r3,4,5,0,40;");
        due.is("the deepest", far.height(5), 900);
    }

    private static void ring(String text, int length, int from) {
        SumsThatDiffer x = Due.laid(text);
        due.is("ring(0) of " + text, x.ring(0), length);
        due.is("ring(1) of " + text, x.ring(1), from);
    }

    private static void rings() {
        ring("n2;", -4, -4);
        ring("r0,0,1,25,15;", -4, -4);
        ring("r0,2,1,25,16;", 2, 1);
        ring("r0,3,2,25,15;r0,3,2,26,14;", 2, 2);
        ring("r0,1,2,21,19;r0,2,3,21,19;r0,3,1,21,19;", 3, 1);
        ring("r0,0,1,21,19;r0,1,2,21,19;r0,2,3,21,19;r0,3,0,21,19;", 4, 0);
        ring("n6;r0,5,1,21,19;r0,1,2,21,19;r0,2,3,21,19;r0,3,4,21,19;r0,4,5,21,19;", 5, 1);
        ring("n6;r0,0,1,21,19;r0,1,2,21,19;r0,2,3,21,19;r0,3,4,21,19;r0,4,5,21,19;r0,5,0,21,19;", 6, 0);
        ring("n6;r0,0,1,21,19;r0,1,2,21,19;r0,2,0,21,19;r0,4,5,21,18;", 2, 4);
        ring("r1,0,1,21,19;r2,1,0,19,21;", -4, -4);
        ring("r3,0,1,21,19;r2,1,0,19,21;", 2, 0);
        ring("r3,0,1,21,19;r2,1,0,18,22;", -4, -4);
        SumsThatDiffer x = Due.laid("r0,0,1,25,16;r0,2,3,25,16;");
        due.is("ring(-1)", x.ring(-1), -1);
        due.is("ring(2)", x.ring(2), -1);
        x.shut(0, true);
        due.is("one is shut", x.ring(1), 2);
        x.shut(1, true);
        due.is("both are shut", x.ring(1), -4);
        due.is("bad ahead of none", x.ring(2), -1);
    }

    private static void fewest() {
        due.is("none need be", Due.laid("n2;").fewest(), 0);
        due.is("the lowest of four", Due.laid(SQUARE).fewest(), 1);
        due.is("one that is unlike back", Due.laid("r0,0,1,20,20;r0,0,1,20,21;r0,0,1,20,20;").fewest(), 2);
        due.is("the odd one out", Due.laid("r0,0,1,20,20;r0,0,1,20,20;r0,0,1,21,19;").fewest(), 4);
        SumsThatDiffer x = Due.laid("r0,0,1,20,20;r0,0,1,21,19;r0,0,1,22,18;");
        due.is("two, the lowest", x.fewest(), 3);
        x.shut(0, true);
        due.is("besides what is shut", x.fewest(), 2);
        x.shut(1, true);
        due.is("nothing besides", x.fewest(), 0);
        SumsThatDiffer all = Due.laid("r0,0,1,1,1;".repeat(9));
        due.is("all nine", all.fewest(), 511);
        due.is("nothing is shut by it", all.count(2), 0);
    }

    private static void thirds() {
        SumsThatDiffer x = Due.laid("n5;r0,0,1,25,15;r3,1,2,23,17;r1,3,0,25,15;");
        due.is("third(0, 2)", x.third(0, 2), 31);
        due.is("third(2, 0)", x.third(2, 0), 9);
        due.is("third(3, 2)", x.third(3, 2), 36);
        due.is("one that is there", x.third(0, 1), 25);
        due.is("apart", x.third(0, 4), -4);
        int[][] bad = {{0, 0}, {-1, 0}, {0, -1}, {5, 0}, {0, 5}, {4, 4}};
        for (int[] b : bad) {
            due.is("third(" + b[0] + ", " + b[1] + ")", x.third(b[0], b[1]), -1);
        }
        x.mend(2, 29, 11);
        due.is("just 40", x.third(3, 2), 40);
        due.is("just 0", x.third(2, 3), 0);
        x.mend(2, 30, 10);
        due.is("above 40", x.third(3, 2), -4);
        due.is("below 0", x.third(2, 3), -4);
        x.mend(2, 30, 11);
        due.is("they do not agree", x.third(0, 1), -4);
        due.is("bad ahead of none", x.third(0, 0), -1);
        x.shut(2, true);
        due.is("they agree without it", x.third(0, 1), 25);
        due.is("apart without it", x.third(0, 3), -4);
    }
}
