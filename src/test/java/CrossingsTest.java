/** Promises 8 to 11 and 27 to 29: crossings, MENDED, SHUT, UNDONE, KEPT, how many. */
public final class CrossingsTest {
    private static final Due due = new Due("CrossingsTest");

    public static void main(String[] args) {
        bothWays();
        bridges();
        tolls();
        doubles();
        belowNothing();
        aboveTheMost();
        behindAllOfThat();
        elsewhereOrShut();
        badCrossings();

        mending();
        figuresOfMending();
        mendingWhatIsShut();
        shutting();
        shutOrOpenAlready();

        undoingEach();
        undoingNothing();
        lastEight();
        lastEightAgainAndAgain();
        notToBeUndone();

        keepingAll();
        keepingTwo();
        goingBack();
        nothingIsUndoneBehindBack();
        whatStaysByBack();

        counts();
        crossingsSoFar();
        due.end(8, 9, 10, 11, 27, 28, 29);
    }

    // ---- promise 8

    /** The sum behind one crossing of a ROAD of this kind from a sum (0 to 999), on the way with F. */
    private static void forth(int kind, int sum, int f, int want) {
        due.is("from " + sum + " by kind " + kind + ", F " + f, Due.having(sum, "r" + kind + ",0,1," + f + ",0;").cross(1), want);
    }

    private static void back(int kind, int sum, int g, int want) {
        due.is("from " + sum + " back by kind " + kind + ", G " + g, Due.having(sum, "r" + kind + ",1,0,0," + g + ";").cross(1), want);
    }

    private static void bothWays() {
        due.by(8, "Crossing a ROAD that ends there and is not SHUT one comes to its other end, and the sum changes as told for that way");
        forth(0, 50, 23, 53);
        forth(0, 50, 40, 70);
        forth(0, 50, 0, 30);
        forth(0, 50, 20, 50);
        back(0, 50, 13, 43);
        back(0, 50, 40, 70);
        back(0, 50, 0, 30);
        SumsThatDiffer x = Due.laid("r0,3,1,25,10;s1,40;");
        due.is("cross(0), from B to A", x.cross(0), 30);
        due.is("at(0)", x.at(0), 3);
        due.is("cross(0), from A to B", x.cross(0), 35);
        due.is("at(0) again", x.at(0), 1);
    }

    private static void bridges() {
        due.by(8, "by a BRIDGE, it is rounded to the nearest of 0, 5, 10, .. (2 down, 3 up)");
        for (int sum = 0; sum <= 12; sum++) {
            int nearest = sum <= 2 ? 0 : sum <= 7 ? 5 : 10;
            forth(1, sum, 20, nearest);
            back(1, sum, 20, nearest);
        }
        for (int sum = 985; sum <= 997; sum++) {
            forth(1, sum, 20, sum <= 987 ? 985 : sum <= 992 ? 990 : 995);
        }
        forth(1, 50, 22, 50);
        forth(1, 50, 23, 55);
        back(1, 50, 18, 50);
        back(1, 50, 17, 45);
    }

    private static void tolls() {
        due.by(8, "by a TOLL it is 1 less");
        forth(2, 50, 25, 54);
        forth(2, 50, 20, 49);
        back(2, 50, 15, 44);
        forth(2, 999, 20, 998);
    }

    private static void doubles() {
        due.by(8, "by a DOUBLE one it changes by as much a second time");
        forth(3, 50, 27, 64);
        forth(3, 50, 40, 90);
        forth(3, 50, 20, 50);
        back(3, 50, 17, 44);
        back(3, 50, 0, 10);
    }

    private static void belowNothing() {
        due.by(8, "What is below 0 is 0 then");
        forth(0, 21, 0, 1);
        forth(0, 20, 0, 0);
        forth(0, 19, 0, 0);
        forth(0, 0, 0, 0);
        back(0, 1, 18, 0);
        forth(1, 0, 17, 0);
        forth(1, 5, 0, 0);
        forth(2, 1, 20, 0);
        forth(2, 0, 20, 0);
        forth(2, 20, 0, 0);
        forth(3, 41, 0, 1);
        forth(3, 40, 0, 0);
        forth(3, 39, 0, 0);
    }

    private static void aboveTheMost() {
        due.by(8, "what is above 999 is 999");
        forth(0, 978, 40, 998);
        forth(0, 979, 40, 999);
        forth(0, 980, 40, 999);
        forth(0, 999, 20, 999);
        forth(0, 999, 40, 999);
        back(0, 998, 21, 999);
        back(0, 998, 22, 999);
        forth(3, 979, 30, 999);
        forth(3, 978, 30, 998);
        forth(3, 999, 40, 999);
        forth(0, 999, 0, 979);
    }

    private static void behindAllOfThat() {
        due.by(8, "(behind all of that)");
        forth(1, 997, 20, 995);
        forth(1, 998, 20, 999);
        forth(1, 999, 20, 999);
        forth(1, 999, 19, 999);
        forth(1, 999, 18, 995);
        forth(1, 999, 40, 999);
        forth(2, 999, 21, 999);
        forth(2, 999, 25, 999);
        forth(2, 998, 21, 998);
        forth(2, 0, 21, 0);
        forth(2, 0, 22, 1);
    }

    private static void elsewhereOrShut() {
        due.by(8, "NO: it does not end there, it is SHUT.");
        SumsThatDiffer x = Due.laid("r0,0,1,25,15;r0,2,3,25,15;");
        due.is("cross(1), it ends elsewhere", x.cross(1), -2);
        due.is("count(6)", x.count(6), 0);
        x.shut(0, true);
        due.is("cross(0), it is SHUT", x.cross(0), -2);
        x.shut(1, true);
        due.is("cross(1), both", x.cross(1), -2);
        due.is("at(0), as it was", x.at(0), 0);
        due.is("at(1), as it was", x.at(1), 50);
        due.is("count(4), as it was", x.count(4), 0);
        due.is("count(6), as it was", x.count(6), 2);
        x.shut(0, false);
        due.is("cross(0), opened", x.cross(0), 55);
        x.shut(1, false);
        due.is("cross(1) from 1", x.cross(1), -2);
    }

    private static void badCrossings() {
        due.by(8, "BAD: a number is none that is told (PLACES, ROADS: such as there are)");
        SumsThatDiffer x = Due.laid("r0,0,1,25,15;r0,2,3,25,15;");
        int[] bad = {-1, 2, 9, 32, 64, Integer.MIN_VALUE, Integer.MAX_VALUE};
        for (int r : bad) {
            due.is("cross(" + r + ")", x.cross(r), -1);
        }
        due.is("at(1), as it was", x.at(1), 50);
        due.is("count(6), as it was", x.count(6), 0);
        due.is("cross(0), no roads", Due.laid("n2;").cross(0), -1);
        due.is("cross(8) of nine", Due.laid("r0,0,1,25,15;".repeat(9)).cross(8), 55);
        due.is("cross(9) of nine", Due.laid("r0,0,1,25,15;".repeat(9)).cross(9), -1);
    }

    // ---- promises 9 and 10

    private static void mending() {
        due.by(9, "A ROAD is MENDED: F as it was.");
        SumsThatDiffer x = Due.laid("r0,0,1,25,15;r0,0,1,24,16;");
        due.is("mend(0, 40, 0)", x.mend(0, 40, 0), 25);
        due.is("road(0, 3)", x.road(0, 3), 40);
        due.is("road(0, 4)", x.road(0, 4), 0);
        due.is("mend(0, 0, 40)", x.mend(0, 0, 40), 40);
        due.is("mend(0, 0, 40), the same", x.mend(0, 0, 40), 0);
        due.is("count(6), each can be UNDONE", x.count(6), 3);
        due.is("cross(0) there", x.cross(0), 30);
        due.is("cross(0) back", x.cross(0), 50);
        due.is("road(1, 3), another", x.road(1, 3), 24);
    }

    private static void figuresOfMending() {
        due.by(9, "(F, G 0 to 40)");
        SumsThatDiffer x = Due.laid("r0,0,1,25,15;");
        int[][] bad = {{-1, 0, 0}, {1, 0, 0}, {0, -1, 0}, {0, 41, 0}, {0, 0, -1}, {0, 0, 41}, {0, 99, 20}, {0, 20, 99}, {32, 1, 1},
            {0, Integer.MIN_VALUE, 0}, {0, 0, Integer.MAX_VALUE}, {1, 41, 41}};
        for (int[] b : bad) {
            due.is("mend(" + b[0] + ", " + b[1] + ", " + b[2] + ")", x.mend(b[0], b[1], b[2]), -1);
        }
        due.is("count(6), as it was", x.count(6), 0);
        due.is("road(0, 3), as it was", x.road(0, 3), 25);
        due.is("road(0, 4), as it was", x.road(0, 4), 15);
        due.is("mend(0, 0, 0)", x.mend(0, 0, 0), 25);
        due.is("mend(0, 40, 40)", x.mend(0, 40, 40), 0);
        due.is("mend(0, 0, 0), no roads", Due.laid("n2;").mend(0, 0, 0), -1);
    }

    private static void mendingWhatIsShut() {
        due.by(9, "A ROAD can be MENDED (other F, G), SHUT, opened.");
        SumsThatDiffer x = Due.laid("r0,0,1,25,15;r0,2,3,25,15;");
        x.shut(0, true);
        due.is("mend(0, 7, 8), SHUT", x.mend(0, 7, 8), 25);
        due.is("road(0, 3)", x.road(0, 3), 7);
        due.is("road(0, 5), SHUT still", x.road(0, 5), 1);
        due.is("mend(1, 7, 8), elsewhere", x.mend(1, 7, 8), 25);
    }

    private static void shutting() {
        due.by(10, "A ROAD is SHUT (shut = true), opened: how many are SHUT.");
        SumsThatDiffer x = Due.laid("r0,0,1,25,15;".repeat(9));
        for (int r = 0; r < 9; r++) {
            due.is("shut(" + r + ", true)", x.shut(r, true), r + 1);
            due.is("road(" + r + ", 5)", x.road(r, 5), 1);
        }
        due.is("count(2)", x.count(2), 9);
        for (int r = 8; r >= 0; r--) {
            due.is("shut(" + r + ", false)", x.shut(r, false), r);
            due.is("road(" + r + ", 5)", x.road(r, 5), 0);
        }
    }

    private static void shutOrOpenAlready() {
        due.by(10, "BAD; NO: it is so already.");
        SumsThatDiffer x = new SumsThatDiffer();
        due.is("shut(3, false), open", x.shut(3, false), -2);
        due.is("count(6), as it was", x.count(6), 0);
        due.is("shut(3, true)", x.shut(3, true), 1);
        due.is("shut(3, true), SHUT", x.shut(3, true), -2);
        due.is("shut(2, false), another", x.shut(2, false), -2);
        due.is("count(2), as it was", x.count(2), 1);
        due.is("count(6), as it was", x.count(6), 1);
        int[] bad = {-1, 5, 32, 35, Integer.MIN_VALUE, Integer.MAX_VALUE};
        for (int r : bad) {
            due.is("shut(" + r + ", true)", x.shut(r, true), -1);
            due.is("shut(" + r + ", false)", x.shut(r, false), -1);
        }
        due.is("shut(3, false), SHUT", x.shut(3, false), 0);
        due.is("shut(3, false), opened", x.shut(3, false), -2);
        due.is("shut(0, false), no roads", Due.laid("n2;").shut(0, false), -1);
    }

    // ---- promise 11

    private static void undoingEach() {
        due.by(11, "UNDONE is the latest crossing, mending, SHUTTING, opening");
        SumsThatDiffer x = Due.laid("r0,0,1,25,15;r0,1,2,30,10;");
        x.cross(0);
        x.mend(1, 21, 22);
        x.shut(0, true);
        x.shut(0, false);
        due.is("undo() of opening", x.undo(), 3);
        due.is("road(0, 5)", x.road(0, 5), 1);
        due.is("undo() of SHUTTING", x.undo(), 2);
        due.is("road(0, 5)", x.road(0, 5), 0);
        due.is("road(1, 3), MENDED still", x.road(1, 3), 21);
        due.is("undo() of mending", x.undo(), 1);
        due.is("road(1, 3)", x.road(1, 3), 30);
        due.is("road(1, 4)", x.road(1, 4), 10);
        due.is("at(0), crossed still", x.at(0), 1);
        due.is("undo() of crossing", x.undo(), 0);
        due.is("at(0)", x.at(0), 0);
        due.is("at(1)", x.at(1), 50);
        SumsThatDiffer cut = Due.laid("r0,0,1,0,40;s0,5;");
        cut.cross(0);
        cut.undo();
        due.is("at(1), what was cut at 0", cut.at(1), 5);
    }

    private static void undoingNothing() {
        due.by(11, "UNDONE: how many more can be. NO.");
        SumsThatDiffer x = new SumsThatDiffer();
        due.is("undo() of a new one", x.undo(), -2);
        x.cross(0);
        due.is("undo()", x.undo(), 0);
        due.is("undo() of no more", x.undo(), -2);
        due.is("at(1), as it was", x.at(1), 50);
        x.mend(0, 1, 1);
        due.is("undo() of what came then", x.undo(), 0);
        due.is("undo() of no more again", x.undo(), -2);
    }

    private static void lastEight() {
        due.by(11, "(the last 8 can be)");
        for (int acts = 7; acts <= 9; acts++) {
            SumsThatDiffer x = Due.laid("r0,0,1,25,15;");
            for (int i = 1; i <= acts; i++) {
                x.mend(0, i, i);
                due.is("count(6) behind " + i, x.count(6), Math.min(8, i));
            }
            for (int left = Math.min(8, acts) - 1; left >= 0; left--) {
                due.is("undo() of " + acts, x.undo(), left);
            }
            due.is("undo() of no more", x.undo(), -2);
            due.is("road(0, 3), what can not be UNDONE", x.road(0, 3), acts == 9 ? 1 : 25);
        }
        SumsThatDiffer y = Due.laid("r0,0,1,21,20;");
        for (int i = 0; i < 20; i++) {
            y.cross(0);
        }
        for (int left = 7; left >= 0; left--) {
            due.is("undo() of 20 crossings", y.undo(), left);
        }
        due.is("at(1), 12 of them are left", y.at(1), 56);
    }

    private static void lastEightAgainAndAgain() {
        due.by(11, "(the last 8 can be)");
        SumsThatDiffer x = Due.laid("r0,0,1,25,15;");
        for (int i = 1; i <= 11; i++) {
            x.mend(0, i, i);
        }
        for (int left = 7; left >= 5; left--) {
            due.is("undo() of three", x.undo(), left);
        }
        due.is("road(0, 3)", x.road(0, 3), 8);
        for (int i = 31; i <= 35; i++) {
            x.mend(0, i, 40 - i);
        }
        due.is("count(6), three and one more", x.count(6), 8);
        int[] before = {34, 33, 32, 31, 8, 7, 6, 5};
        for (int i = 0; i < 8; i++) {
            due.is("undo() of all", x.undo(), 7 - i);
            due.is("road(0, 3)", x.road(0, 3), before[i]);
        }
        due.is("undo() of no more", x.undo(), -2);
    }

    private static void notToBeUndone() {
        due.by(11, "NO: not as things stand.");
        SumsThatDiffer x = Due.laid("r0,0,1,25,15;");
        x.write('n');
        x.tell(0, 1, 0, -4, 6);
        x.keep();
        x.year(1, 60, 0);
        x.cross(1);
        x.mend(0, 41, 0);
        x.shut(0, false);
        due.is("undo() of none of these", x.undo(), -2);
        x.cross(0);
        due.is("undo()", x.undo(), 0);
        due.is("count(5), TOLD stays", x.count(5), 1);
        due.is("count(7), KEPT stays", x.count(7), 1);
        due.is("count(8), THE TEXT stays", x.count(8), 14);
    }

    // ---- promises 27 and 28

    private static void keepingAll() {
        due.by(27, "KEPT is all as it stands");
        SumsThatDiffer x = Due.laid("r0,0,1,25,15;r0,1,2,30,10;s0,50;j0;");
        x.cross(0);
        x.mend(0, 1, 2);
        x.shut(1, true);
        due.is("keep()", x.keep(), 1);
        x.shut(1, false);
        x.mend(0, 3, 4);
        x.mend(1, 5, 6);
        x.cross(1);
        due.is("back()", x.back(), 0);
        due.is("at(0)", x.at(0), 1);
        due.is("at(1)", x.at(1), 55);
        int[][] roads = {{0, 0, 1, 1, 2, 0}, {0, 1, 2, 30, 10, 1}};
        for (int r = 0; r < 2; r++) {
            for (int what = 0; what < 6; what++) {
                due.is("road(" + r + ", " + what + ")", x.road(r, what), roads[r][what]);
            }
        }
        due.is("count(4)", x.count(4), 1);
        due.is("count(2)", x.count(2), 1);
        due.is("count(3)", x.count(3), 1);
    }

    private static void keepingTwo() {
        due.by(27, "2 at most");
        SumsThatDiffer x = Due.laid("r0,0,1,25,15;");
        due.is("keep()", x.keep(), 1);
        x.cross(0);
        due.is("keep() of another", x.keep(), 2);
        x.cross(0);
        due.is("keep() of a third", x.keep(), -3);
        due.is("keep() of a third again", x.keep(), -3);
        due.is("count(7), as it was", x.count(7), 2);
        due.is("count(6), as it was", x.count(6), 2);
        due.is("back()", x.back(), 1);
        due.is("at(0), the second was KEPT", x.at(0), 1);
        due.is("keep() where there is room", x.keep(), 2);
        due.is("keep() of a third once more", x.keep(), -3);
        due.is("back()", x.back(), 1);
        due.is("back()", x.back(), 0);
        due.is("at(0), the first was KEPT", x.at(0), 0);
        due.is("keep() of the same twice, 1", x.keep(), 1);
        due.is("keep() of the same twice, 2", x.keep(), 2);
    }

    private static void goingBack() {
        due.by(28, "As KEPT last (it is KEPT no more then): how many are left; nothing is UNDONE then. NO.");
        SumsThatDiffer x = Due.laid("r0,0,1,25,15;");
        due.is("back(), none is KEPT", x.back(), -2);
        x.keep();
        x.cross(0);
        x.keep();
        x.cross(0);
        due.is("back() to the last", x.back(), 1);
        due.is("at(0)", x.at(0), 1);
        due.is("count(7)", x.count(7), 1);
        due.is("back() to the first", x.back(), 0);
        due.is("at(0)", x.at(0), 0);
        x.cross(0);
        due.is("back(), none is KEPT any more", x.back(), -2);
        due.is("at(0), as it was", x.at(0), 1);
        due.is("count(6), as it was", x.count(6), 1);
    }

    private static void nothingIsUndoneBehindBack() {
        due.by(28, "behind which nothing can be UNDONE");
        SumsThatDiffer x = Due.laid("r0,0,1,25,15;");
        x.cross(0);
        x.keep();
        due.is("count(6) behind keep()", x.count(6), 1);
        x.cross(0);
        due.is("undo() behind keep()", x.undo(), 1);
        due.is("undo() of what was ahead of keep()", x.undo(), 0);
        x.mend(0, 1, 1);
        due.is("back()", x.back(), 0);
        due.is("count(6)", x.count(6), 0);
        due.is("undo()", x.undo(), -2);
        due.is("at(0), as KEPT", x.at(0), 1);
        due.is("road(0, 3), as KEPT", x.road(0, 3), 25);
        x.cross(0);
        due.is("undo() of what came then", x.undo(), 0);
    }

    private static void whatStaysByBack() {
        due.by(28, "but what is TOLD and THE TEXT (these stay by back()");
        SumsThatDiffer x = Due.laid("r0,0,1,25,15;");
        x.tell(0, 1, 0, -4, 6);
        x.keep();
        x.tell(0, 1, 0, -4, 7);
        x.write('x');
        due.is("back()", x.back(), 0);
        due.is("count(5)", x.count(5), 2);
        due.is("wrong(), by both", x.wrong(), 0);
        due.is("count(8)", x.count(8), 14);
        due.is("fault()", x.fault(), 13);
        x.keep();
        x.forget();
        x.wipe();
        due.is("back() behind forget() and wipe()", x.back(), 0);
        due.is("count(5)", x.count(5), 0);
        due.is("count(8)", x.count(8), 0);
    }

    // ---- promise 29

    private static void counts() {
        due.by(29, "0 PLACES, 1 ROADS, 2 SHUT, 3 ROADS of THE JOURNEY, 4 crossings so far, 5 TOLD, 6 that can be UNDONE, 7 KEPT, "
                + "8 letters of THE TEXT. BAD.");
        SumsThatDiffer x = Due.laid("n6;r0,0,1,25,15;r0,1,2,30,10;s0,1;j0;j1;j1;j0;");
        x.cross(0);
        x.cross(1);
        x.cross(1);
        x.shut(0, true);
        x.tell(0, 1, 0, 1, 6);
        x.tell(0, 1, 0, 1, 7);
        x.keep();
        int[] counts = {6, 2, 1, 4, 3, 2, 4, 1, 46};
        for (int what = 0; what < counts.length; what++) {
            due.is("count(" + what + ")", x.count(what), counts[what]);
        }
        int[] bad = {-1, 9, Integer.MIN_VALUE, Integer.MAX_VALUE};
        for (int what : bad) {
            due.is("count(" + what + ")", x.count(what), -1);
        }
    }

    private static void crossingsSoFar() {
        due.by(29, "4 crossings so far");
        SumsThatDiffer x = Due.laid("r0,0,1,25,15;");
        due.is("count(4) of none", x.count(4), 0);
        x.cross(0);
        x.keep();
        for (int i = 0; i < 19; i++) {
            x.cross(0);
        }
        due.is("count(4) of twenty", x.count(4), 20);
        x.cross(1);
        x.year(0, 60, 1);
        x.most(5, 0);
        due.is("count(4), none was crossed", x.count(4), 20);
        x.undo();
        due.is("count(4), one is UNDONE", x.count(4), 19);
        x.back();
        due.is("count(4) as KEPT", x.count(4), 1);
        x.lay();
        due.is("count(4), one has set out", x.count(4), 0);
    }
}
