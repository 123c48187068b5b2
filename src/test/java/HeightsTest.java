/** Promises 15 to 19: HEIGHTS agree, heights, RING, FEWEST, THIRD. */
public final class HeightsTest {
    private static final Due due = new Due("HeightsTest");
    private static final String SQUARE = "n5;r0,0,1,25,15;r1,1,2,22,18;r2,2,3,18,22;r3,3,0,18,22;";

    public static void main(String[] args) {
        agreeingByEachRoad();
        agreeingEachWay();
        agreeingByKinds();
        whatIsShutDoesNotCount();

        hundredOfTheLowest();
        heightsAlongRoads();
        highestAndDeepest();
        noHeights();
        badHeights();

        ringsOfTwo();
        ringsOfMore();
        ringsFromTheLowest();
        ringsByKinds();
        noRings();
        badRings();

        fewestOfNone();
        fewestRoads();
        lowestOfSeveralSets();
        besidesWhatIsShut();

        thirdRoads();
        thirdAtItsBounds();
        noThird();
        badThirds();
        due.end(15, 16, 17, 18, 19);
    }

    // ---- promise 15

    private static void agree(String text, int want) {
        due.is("agree() of " + text, Due.laid(text).agree(), want);
    }

    private static void agreeingByEachRoad() {
        due.by(15, "HEIGHTS agree, if each PLACE can have a height so that CHANGE by each ROAD");
        SumsThatDiffer x = Due.laid(SQUARE);
        due.is("agree(), 5 2 -2 -4", x.agree(), 0);
        x.mend(3, 17, 23);
        due.is("agree(), 5 2 -2 -6", x.agree(), 0);
        x.mend(0, 24, 16);
        due.is("agree(), 4 2 -2 -6", x.agree(), 0);
        x.mend(3, 18, 22);
        due.is("agree(), 4 2 -2 -4", x.agree(), 1);
        agree("n2;", 1);
        agree("n6;r0,5,4,0,40;", 1);
        agree("r0,0,1,25,15;r1,1,0,15,25;", 1);
        agree("r0,0,1,25,15;r1,1,0,16,24;", 0);
        agree("r0,0,1,25,15;r0,0,1,25,15;r0,2,3,25,15;r0,3,2,25,15;", 0);
        String nine = "r0,0,1,25,15;".repeat(8);
        agree(nine + "r0,1,0,15,25;", 1);
        agree(nine + "r0,1,0,14,26;", 0);
    }

    private static void agreeingEachWay() {
        due.by(15, "each way, is the height to which it leads less that from which");
        agree("r0,2,3,0,40;", 1);
        agree("r0,2,3,0,39;", 0);
        agree("r0,2,3,20,20;", 1);
        agree("r0,2,3,20,21;", 0);
        agree("r0,2,3,21,20;", 0);
        agree("r0,2,3,25,25;", 0);
        agree("r3,2,3,21,18;", 0);
        agree(SQUARE.replace("3,0,18,22", "3,0,18,21"), 0);
    }

    private static void agreeingByKinds() {
        due.by(15, "by a DOUBLE one twice that (by a BRIDGE, a TOLL just that)");
        agree("r3,0,1,22,18;r0,0,1,24,16;", 1);
        agree("r3,0,1,22,18;r0,0,1,22,18;", 0);
        agree("r3,0,1,22,18;r3,1,0,18,22;", 1);
        agree("r1,0,1,23,17;r0,0,1,23,17;", 1);
        agree("r1,0,1,23,17;r0,0,1,25,15;", 0);
        agree("r2,0,1,23,17;r0,0,1,23,17;", 1);
        agree("r2,0,1,23,17;r0,0,1,22,18;", 0);
    }

    private static void whatIsShutDoesNotCount() {
        due.by(15, "each ROAD that is not SHUT");
        SumsThatDiffer x = Due.laid("r0,0,1,25,15;r0,0,1,24,16;r0,2,3,25,16;");
        int[] agrees = {0, 0, 0, 0, 0, 1, 1, 1};
        for (int bits = 0; bits < 8; bits++) {
            for (int r = 0; r < 3; r++) {
                x.shut(r, (bits >> r & 1) == 1);
            }
            due.is("agree(), bits of " + bits + " are SHUT", x.agree(), agrees[bits]);
        }
    }

    // ---- promise 16

    private static void heights(SumsThatDiffer x, int... want) {
        for (int p = 0; p < want.length; p++) {
            due.is("height(" + p + ")", x.height(p), want[p]);
        }
    }

    private static void hundredOfTheLowest() {
        due.by(16, "100 of the lowest number of PLACES that hang together by ROADS that are not SHUT");
        heights(Due.laid("n6;"), 1100, 1100, 1100, 1100, 1100, 1100);
        SumsThatDiffer x = Due.laid("n6;r0,2,1,25,15;r3,1,4,18,22;r0,5,3,30,10;");
        heights(x, 1100, 1100, 1095, 1100, 1096, 1090);
        x.shut(0, true);
        heights(x, 1100, 1100, 1100, 1100, 1096, 1090);
        x.shut(1, true);
        heights(x, 1100, 1100, 1100, 1100, 1100, 1090);
        x.cross(2);
        x.shut(0, false);
        heights(x, 1100, 1100, 1095, 1100, 1100, 1090);
    }

    private static void heightsAlongRoads() {
        due.by(16, "of the others of these as CHANGES tell");
        heights(Due.laid("n6;r0,4,5,21,19;r0,3,4,21,19;r0,2,3,21,19;r0,1,2,21,19;r0,0,1,21,19;"), 1100, 1101, 1102, 1103, 1104, 1105);
        heights(Due.laid("n6;r0,5,4,21,19;r0,4,3,21,19;r0,3,2,21,19;r0,2,1,21,19;r0,1,0,21,19;"), 1100, 1099, 1098, 1097, 1096, 1095);
        heights(Due.laid("n6;r0,5,1,21,19;r0,2,4,22,18;r0,0,5,23,17;r0,4,1,24,16;r0,3,2,25,15;"), 1100, 1104, 1098, 1093, 1100, 1103);
        heights(Due.laid("n3;r2,0,1,23,17;r1,1,2,23,17;r3,0,2,23,17;"), 1100, 1103, 1106);
        SumsThatDiffer x = Due.laid("n2;r0,0,1,23,17;");
        x.mend(0, 17, 23);
        heights(x, 1100, 1097);
    }

    private static void highestAndDeepest() {
        due.by(16, "The height of a PLACE, and 1000.");
        String deep = "n6;r3,0,1,0,40;r3,1,2,0,40;r3,2,3,0,40;r3,3,4,0,40;r3,4,5,0,40;";
        heights(Due.laid(deep), 1100, 1060, 1020, 980, 940, 900);
        heights(Due.laid(deep.replace("0,40;", "40,0;")), 1100, 1140, 1180, 1220, 1260, 1300);
    }

    private static void noHeights() {
        due.by(16, "NONE: they do not agree");
        SumsThatDiffer x = Due.laid("n6;r0,0,1,25,15;r0,4,5,20,21;");
        for (int p = 0; p < 6; p++) {
            due.is("height(" + p + "), another ROAD is unlike", x.height(p), -4);
        }
        x.shut(1, true);
        heights(x, 1100, 1105, 1100, 1100, 1100, 1100);
    }

    private static void badHeights() {
        due.by(16, "BAD: a number is none that is told (PLACES, ROADS: such as there are)");
        SumsThatDiffer agrees = Due.laid("n5;r0,0,1,25,15;");
        SumsThatDiffer none = Due.laid("n5;r0,0,1,25,16;");
        int[] bad = {-1, 5, 6, 32, Integer.MIN_VALUE, Integer.MAX_VALUE};
        for (int p : bad) {
            due.is("height(" + p + ")", agrees.height(p), -1);
            due.is("height(" + p + "), ahead of NONE", none.height(p), -1);
        }
        heights(agrees, 1100, 1105, 1100, 1100, 1100);
        due.is("height(1) of n2", Due.laid("n2;").height(1), 1100);
        due.is("height(2) of n2", Due.laid("n2;").height(2), -1);
        due.is("height(5) of n6", Due.laid("n6;").height(5), 1100);
    }

    // ---- promise 17

    private static void ring(String text, int length, int from) {
        SumsThatDiffer x = Due.laid(text);
        due.is("ring(0) of " + text, x.ring(0), length);
        due.is("ring(1) of " + text, x.ring(1), from);
    }

    private static void ringsOfTwo() {
        due.by(17, "RING: the fewest crossings (2 to 6; a ROAD perhaps more than once)");
        ring("r0,2,1,25,16;", 2, 1);
        ring("r0,2,1,25,14;", 2, 1);
        ring("r0,3,2,25,15;r0,3,2,26,14;", 2, 2);
        ring("r0,3,2,25,15;r0,2,3,26,14;", 2, 2);
        // beside a ROAD by which there and back it is 0, ahead of it or behind
        ring("r0,0,1,20,20;r0,1,2,20,20;r0,1,3,20,21;", 2, 1);
        ring("r0,0,1,20,20;r0,1,2,20,20;r0,1,3,20,19;", 2, 1);
        ring("r0,1,3,20,21;r0,0,1,20,20;r0,1,2,20,20;", 2, 1);
        ring("r0,1,3,20,19;r0,0,1,20,20;r0,1,2,20,20;", 2, 1);
        // there and back by one is 1 more, by the other 1 less
        ring("r0,0,1,20,21;r0,0,1,20,19;", 2, 0);
    }

    private static void ringsOfMore() {
        due.by(17, "from any PLACE back to it, the CHANGES of which together are not 0");
        ring("r0,1,2,21,19;r0,2,3,21,19;r0,3,1,21,19;", 3, 1);
        ring("r0,1,2,19,21;r0,2,3,19,21;r0,3,1,19,21;", 3, 1);
        ring("r0,0,1,21,19;r0,1,2,21,19;r0,2,3,21,19;r0,3,0,21,19;", 4, 0);
        ring("n6;r0,5,1,21,19;r0,1,2,21,19;r0,2,3,21,19;r0,3,4,21,19;r0,4,5,21,19;", 5, 1);
        ring("n6;r0,0,1,21,19;r0,1,2,21,19;r0,2,3,21,19;r0,3,4,21,19;r0,4,5,21,19;r0,5,0,21,19;", 6, 0);
        ring("n6;r0,0,1,40,0;r0,1,2,40,0;r0,2,3,40,0;r0,3,4,0,40;r0,4,5,0,40;r0,5,0,1,39;", 6, 0);
    }

    private static void ringsFromTheLowest() {
        due.by(17, "from which PLACE, of several the lowest");
        ring("n6;r0,0,1,21,19;r0,1,2,21,19;r0,2,0,21,19;r0,4,5,21,18;", 2, 4);
        ring("n6;r0,4,5,21,18;r0,3,2,21,18;", 2, 2);
        ring("r0,0,1,21,19;r0,1,2,20,20;r0,2,0,19,21;r0,1,3,21,19;r0,3,2,20,20;", 3, 1);
        ring("n6;r0,0,1,20,20;r0,1,2,20,20;r0,2,0,20,20;r0,3,4,20,20;r0,4,5,20,20;r0,5,3,21,19;", 3, 3);
    }

    private static void ringsByKinds() {
        due.by(17, "by a DOUBLE one twice that (by a BRIDGE, a TOLL just that)");
        ring("r1,0,1,21,19;r2,1,0,19,21;", -4, -4);
        ring("r3,0,1,21,19;r2,1,0,19,21;", 2, 0);
        ring("r3,0,1,21,19;r2,1,0,18,22;", -4, -4);
        ring("r3,1,2,21,18;", 2, 1);
    }

    private static void noRings() {
        due.by(17, "the lowest; none.");
        ring("n2;", -4, -4);
        ring("r0,0,1,25,15;", -4, -4);
        ring("n6;r0,0,1,21,19;r0,1,2,21,19;r0,2,3,21,19;r0,3,4,21,19;r0,4,5,21,19;r0,5,0,15,25;", -4, -4);
        SumsThatDiffer x = Due.laid("r0,0,1,25,16;r0,2,3,25,16;");
        x.shut(0, true);
        due.is("ring(0), one is SHUT", x.ring(0), 2);
        due.is("ring(1), one is SHUT", x.ring(1), 2);
        x.shut(1, true);
        due.is("ring(0), both are SHUT", x.ring(0), -4);
        due.is("ring(1), both are SHUT", x.ring(1), -4);
    }

    private static void badRings() {
        due.by(17, "NONE; BAD.");
        SumsThatDiffer x = Due.laid("r0,0,1,25,16;");
        SumsThatDiffer none = Due.laid("n2;");
        int[] bad = {-1, 2, Integer.MIN_VALUE, Integer.MAX_VALUE};
        for (int what : bad) {
            due.is("ring(" + what + ")", x.ring(what), -1);
            due.is("ring(" + what + "), ahead of NONE", none.ring(what), -1);
        }
    }

    // ---- promise 18

    private static void fewest(String text, int want) {
        due.is("fewest() of " + text, Due.laid(text).fewest(), want);
    }

    private static void fewestOfNone() {
        due.by(18, "the fewest ROADS that have to be SHUT besides so that HEIGHTS agree");
        fewest("n2;", 0);
        fewest("r0,0,1,25,15;", 0);
        fewest("r0,0,1,25,15;".repeat(9), 0);
    }

    private static void fewestRoads() {
        due.by(18, "so that HEIGHTS agree, of several sets the lowest, as bits");
        fewest("r0,0,1,20,20;r0,0,1,20,21;r0,0,1,20,20;", 2);
        fewest("r0,0,1,20,20;r0,0,1,20,20;r0,0,1,21,19;", 4);
        SumsThatDiffer all = Due.laid("r0,0,1,1,1;".repeat(9));
        due.is("fewest(), all nine", all.fewest(), 511);
        due.is("count(2), nothing is SHUT by it", all.count(2), 0);
        due.is("count(6), nothing is SHUT by it", all.count(6), 0);
        // two of the lowest roads agree with none other, the three highest agree: fewer counts ahead of lower
        fewest("r0,0,1,21,19;r0,0,1,21,19;r0,0,1,22,18;r0,0,1,22,18;r0,0,1,22,18;", 3);
        fewest("r0,0,1,22,18;r0,0,1,22,18;r0,0,1,22,18;r0,0,1,21,19;r0,0,1,21,19;", 24);
        fewest("r0,0,1,20,21;r0,0,1,20,20;r0,1,2,20,20;r0,2,0,21,19;r0,2,3,20,19;", 1 + 2 + 16);
    }

    private static void lowestOfSeveralSets() {
        due.by(18, "of several sets the lowest, as bits");
        fewest(SQUARE, 1);
        fewest("r0,0,1,20,20;r0,0,1,21,19;r0,0,1,22,18;", 3);
        StringBuilder nine = new StringBuilder();
        for (int f = 21; f < 30; f++) {
            nine.append("r0,0,1,").append(f).append(',').append(40 - f).append(';');
        }
        fewest(nine.toString(), 255);
        fewest("r0,0,1,20,20;r0,0,1,21,19;r0,2,3,20,20;r0,2,3,21,19;", 5);
    }

    private static void besidesWhatIsShut() {
        due.by(18, "have to be SHUT besides");
        SumsThatDiffer x = Due.laid("r0,0,1,20,20;r0,0,1,21,19;r0,0,1,22,18;");
        due.is("fewest()", x.fewest(), 3);
        x.shut(0, true);
        due.is("fewest(), one is SHUT", x.fewest(), 2);
        x.shut(1, true);
        due.is("fewest(), two are SHUT", x.fewest(), 0);
        x.shut(0, false);
        due.is("fewest(), another is SHUT", x.fewest(), 1);
        x.shut(1, false);
        x.shut(2, true);
        due.is("fewest(), the last is SHUT", x.fewest(), 1);
        x.shut(0, true);
        x.shut(1, true);
        due.is("fewest(), all are SHUT", x.fewest(), 0);
        SumsThatDiffer unlike = Due.laid("r0,0,1,20,21;r0,0,1,20,20;r0,0,1,21,19;");
        unlike.shut(0, true);
        due.is("fewest(), one that is unlike back is SHUT", unlike.fewest(), 2);
        unlike.shut(2, true);
        due.is("fewest(), and the others agree", unlike.fewest(), 0);
        SumsThatDiffer last = Due.laid("r0,0,1,21,19;r0,0,1,20,20;r0,0,1,20,21;");
        last.shut(2, true);
        due.is("fewest(), the last is unlike back and SHUT", last.fewest(), 1);
    }

    // ---- promise 19

    private static void thirdRoads() {
        due.by(19, "THIRD: the F (0 to 40) that one more PLAIN ROAD from a to b, with a G of 40 less F, must have so that HEIGHTS agree");
        SumsThatDiffer x = Due.laid("n5;r0,0,1,25,15;r3,1,2,23,17;r1,3,0,25,15;");
        due.is("third(0, 2)", x.third(0, 2), 31);
        due.is("third(2, 0)", x.third(2, 0), 9);
        due.is("third(3, 2)", x.third(3, 2), 36);
        due.is("third(0, 1), by one that is there", x.third(0, 1), 25);
        due.is("third(1, 2), by a DOUBLE one", x.third(1, 2), 26);
        due.is("count(1), none is made", x.count(1), 3);
    }

    private static void thirdAtItsBounds() {
        due.by(19, "or it would be less than 0, more than 40");
        SumsThatDiffer x = Due.laid("r0,0,1,40,0;r0,1,2,20,20;");
        due.is("third(0, 2), just 40", x.third(0, 2), 40);
        due.is("third(2, 0), just 0", x.third(2, 0), 0);
        x.mend(1, 21, 19);
        due.is("third(0, 2), 41", x.third(0, 2), -4);
        due.is("third(2, 0), 1 less than 0", x.third(2, 0), -4);
        x.mend(1, 19, 21);
        due.is("third(0, 2), 39", x.third(0, 2), 39);
        due.is("third(2, 0), 1", x.third(2, 0), 1);
        SumsThatDiffer far = Due.laid("n6;r3,0,1,0,40;r3,1,2,0,40;r3,2,3,0,40;r3,3,4,0,40;r3,4,5,0,40;");
        due.is("third(0, 5)", far.third(0, 5), -4);
        due.is("third(5, 0)", far.third(5, 0), -4);
        due.is("third(0, 1)", far.third(0, 1), -4);
    }

    private static void noThird() {
        due.by(19, "none (they do not agree as it is, a and b do not hang together");
        SumsThatDiffer x = Due.laid("n5;r0,0,1,25,15;r0,2,3,25,15;r0,1,2,20,21;");
        due.is("third(0, 1), they do not agree", x.third(0, 1), -4);
        x.shut(2, true);
        due.is("third(0, 1)", x.third(0, 1), 25);
        due.is("third(0, 2), apart", x.third(0, 2), -4);
        due.is("third(3, 1), apart", x.third(3, 1), -4);
        due.is("third(4, 0), apart", x.third(4, 0), -4);
        due.is("third(3, 2)", x.third(3, 2), 15);
        x.shut(0, true);
        due.is("third(0, 1), apart by SHUTTING", x.third(0, 1), -4);
        due.is("third(0, 1), no roads", Due.laid("n2;").third(0, 1), -4);
    }

    private static void badThirds() {
        due.by(19, "NONE; BAD (alike, too).");
        SumsThatDiffer agrees = Due.laid("n5;r0,0,1,25,15;");
        SumsThatDiffer none = Due.laid("n5;r0,0,1,25,16;");
        int[][] bad = {{0, 0}, {4, 4}, {-1, 0}, {0, -1}, {5, 0}, {0, 5}, {-1, -1}, {5, 5}, {32, 1}, {1, 32},
            {Integer.MIN_VALUE, 0}, {0, Integer.MAX_VALUE}};
        for (int[] b : bad) {
            due.is("third(" + b[0] + ", " + b[1] + ")", agrees.third(b[0], b[1]), -1);
            due.is("third(" + b[0] + ", " + b[1] + "), ahead of NONE", none.third(b[0], b[1]), -1);
        }
    }
}
