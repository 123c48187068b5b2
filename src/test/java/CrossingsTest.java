/** Promises 8 to 11 and 27 to 29: crossings, MENDED, SHUT, UNDONE, KEPT, how many. */
public final class CrossingsTest {
    private static final Due due = new Due("CrossingsTest");

    public static void main(String[] args) {
        plainAndBothWays();
        bridges();
        tolls();
        doubles();
        bounds();
        crossingRefused();
        mending();
        shutting();
        undoing();
        lastEight();
        keeping();
        counts();
        due.end();
    }

    /** The sum behind one crossing of a road of this kind from a sum, on the way with F. */
    private static int behind(int kind, int sum, int f) {
        return Due.laid("r" + kind + ",0,1," + f + ",0;s0," + sum + ";").cross(0);
    }

    private static int behindBack(int kind, int sum, int g) {
        return Due.laid("r" + kind + ",0,1,0," + g + ";s1," + sum + ";").cross(0);
    }

    private static void plainAndBothWays() {
        due.is("plain, forth", behind(0, 50, 23), 53);
        due.is("plain, back", behindBack(0, 50, 13), 43);
        due.is("plain, most", behind(0, 50, 40), 70);
        due.is("plain, least", behind(0, 50, 0), 30);
        due.is("plain, none", behind(0, 50, 20), 50);
        SumsThatDiffer x = Due.laid("r0,3,1,25,10;s1,40;");
        due.is("from B to A", x.cross(0), 30);
        due.is("at A", x.at(0), 3);
        due.is("from A to B", x.cross(0), 35);
        due.is("at B", x.at(0), 1);
        due.is("crossings", x.count(4), 2);
    }

    private static void bridges() {
        int[] rounded = {50, 50, 50, 55, 55, 55, 55, 55, 60};
        for (int i = 0; i < rounded.length; i++) {
            due.is("a bridge to " + (50 + i), behind(1, 50, 20 + i), rounded[i]);
            due.is("a bridge back to " + (50 + i), behindBack(1, 50, 20 + i), rounded[i]);
        }
        due.is("a bridge to 2", behind(1, 2, 20), 0);
        due.is("a bridge to 3", behind(1, 3, 20), 5);
        due.is("a bridge below 0", behind(1, 0, 17), 0);
    }

    private static void tolls() {
        due.is("a toll", behind(2, 50, 25), 54);
        due.is("a toll back", behindBack(2, 50, 15), 44);
        due.is("a toll of nothing", behind(2, 0, 20), 0);
        due.is("a toll to the last", behind(2, 1, 20), 0);
    }

    private static void doubles() {
        due.is("a double", behind(3, 50, 27), 64);
        due.is("a double back", behindBack(3, 50, 17), 44);
        due.is("a double to below 0", behind(3, 39, 0), 0);
        due.is("a double to 0", behind(3, 40, 0), 0);
        due.is("a double to 1", behind(3, 41, 0), 1);
    }

    /** 979 (99 and 22 times 40) by road 0, a double one; road 1 then leads to 979 + f - 20, road 2 is told. */
    private static SumsThatDiffer near(int f, String second) {
        SumsThatDiffer x = Due.laid("r3,0,1,40,40;r0,0,1," + f + ",0;" + second + "s0,99;");
        for (int i = 0; i < 22; i++) {
            x.cross(0);
        }
        due.is("22 crossings of a double road", x.at(1), 979);
        due.is("a plain road near the most", x.cross(1), 979 + f - 20);
        return x;
    }

    private static void bounds() {
        due.is("below 0", behind(0, 5, 10), 0);
        due.is("just 0", behind(0, 5, 15), 0);
        due.is("999 and 1", near(40, "r0,1,0,21,20;").cross(2), 999);
        due.is("998 by a bridge is 1000, so 999", near(39, "r1,1,0,20,20;").cross(2), 999);
        due.is("997 by a bridge", near(38, "r1,1,0,20,20;").cross(2), 995);
        due.is("999 and 5 by a toll: cut behind all of that", near(40, "r2,1,0,25,20;").cross(2), 999);
        due.is("999 by a toll", near(40, "r2,1,0,20,20;").cross(2), 998);
        due.is("980 and twice 10", near(21, "r3,1,0,30,20;").cross(2), 999);
    }

    private static void crossingRefused() {
        SumsThatDiffer x = Due.laid("r0,0,1,25,15;r0,2,3,25,15;");
        due.is("cross(-1)", x.cross(-1), -1);
        due.is("cross(2)", x.cross(2), -1);
        due.is("cross one that ends elsewhere", x.cross(1), -2);
        x.shut(0, true);
        due.is("cross a shut one", x.cross(0), -2);
        due.is("not gone", x.at(0), 0);
        due.is("not changed", x.at(1), 50);
        due.is("not counted", x.count(4), 0);
        due.is("nothing to undo but the shutting", x.count(6), 1);
        x.shut(0, false);
        due.is("cross where it is opened", x.cross(0), 55);
    }

    private static void mending() {
        SumsThatDiffer x = Due.laid("r0,0,1,25,15;");
        int[][] bad = {{-1, 0, 0}, {1, 0, 0}, {0, -1, 0}, {0, 41, 0}, {0, 0, -1}, {0, 0, 41}};
        for (int[] b : bad) {
            due.is("mend(" + b[0] + ", " + b[1] + ", " + b[2] + ")", x.mend(b[0], b[1], b[2]), -1);
        }
        due.is("nothing to undo by bad mending", x.count(6), 0);
        due.is("mend", x.mend(0, 40, 0), 25);
        due.is("F", x.road(0, 3), 40);
        due.is("G", x.road(0, 4), 0);
        due.is("mend once more", x.mend(0, 0, 40), 40);
        due.is("mend to the same", x.mend(0, 0, 40), 0);
        due.is("each can be undone", x.count(6), 3);
        due.is("cross by what is mended", x.cross(0), 30);
        due.is("and back", x.cross(0), 50);
        x.shut(0, true);
        due.is("mend a shut one", x.mend(0, 7, 7), 0);
        due.is("it is shut still", x.road(0, 5), 1);
    }

    private static void shutting() {
        SumsThatDiffer x = new SumsThatDiffer();
        due.is("shut(-1, true)", x.shut(-1, true), -1);
        due.is("shut(5, false)", x.shut(5, false), -1);
        due.is("open an open one", x.shut(3, false), -2);
        due.is("shut", x.shut(3, true), 1);
        due.is("shut it again", x.shut(3, true), -2);
        due.is("shut another", x.shut(0, true), 2);
        due.is("count(2)", x.count(2), 2);
        due.is("open one", x.shut(3, false), 1);
        due.is("open it again", x.shut(3, false), -2);
        due.is("three can be undone", x.count(6), 3);
    }

    private static void undoing() {
        SumsThatDiffer x = Due.laid("r0,0,1,25,15;r0,1,2,30,10;");
        x.tell(0, 1, 0, -4, 6);
        x.cross(0);
        x.mend(1, 21, 22);
        x.shut(0, true);
        x.shut(0, false);
        due.is("undo opening", x.undo(), 3);
        due.is("shut again", x.road(0, 5), 1);
        due.is("undo shutting", x.undo(), 2);
        due.is("open again", x.road(0, 5), 0);
        due.is("undo mending", x.undo(), 1);
        due.is("F again", x.road(1, 3), 30);
        due.is("G again", x.road(1, 4), 10);
        due.is("undo crossing", x.undo(), 0);
        due.is("place again", x.at(0), 0);
        due.is("sum again", x.at(1), 50);
        due.is("crossings again", x.count(4), 0);
        due.is("undo nothing", x.undo(), -2);
        due.is("told stays", x.count(5), 1);
        x.cross(0);
        due.is("undo can be had anew", x.undo(), 0);
    }

    private static void lastEight() {
        SumsThatDiffer x = Due.laid("r0,0,1,25,15;");
        for (int i = 1; i <= 11; i++) {
            x.mend(0, i, i);
            due.is("can be undone behind " + i, x.count(6), Math.min(8, i));
        }
        for (int left = 7; left >= 0; left--) {
            due.is("undo to " + left, x.undo(), left);
            due.is("F behind undo to " + left, x.road(0, 3), left + 3);
        }
        due.is("undo no more", x.undo(), -2);
        due.is("F stays", x.road(0, 3), 3);
    }

    private static void keeping() {
        SumsThatDiffer x = Due.laid("r0,0,1,25,15;r0,1,2,30,10;");
        due.is("back, none kept", x.back(), -2);
        x.cross(0);
        due.is("keep", x.keep(), 1);
        due.is("undo stays behind keep", x.count(6), 1);
        x.mend(0, 1, 2);
        x.shut(1, true);
        due.is("keep another", x.keep(), 2);
        due.is("keep a third", x.keep(), -3);
        due.is("undo behind keep", x.undo(), 2);
        x.cross(0);
        x.tell(0, 1, 0, -4, 6);
        x.wipe();
        due.is("back", x.back(), 1);
        due.is("nothing can be undone then", x.count(6), 0);
        due.is("undo then", x.undo(), -2);
        due.is("shut as kept", x.road(1, 5), 1);
        due.is("F as kept", x.road(0, 3), 1);
        due.is("G as kept", x.road(0, 4), 2);
        due.is("place as kept", x.at(0), 1);
        due.is("crossings as kept", x.count(4), 1);
        due.is("told stays", x.count(5), 1);
        due.is("the text stays", x.count(8), 0);
        due.is("kept once less", x.count(7), 1);
        due.is("keep again", x.keep(), 2);
        due.is("back again", x.back(), 1);
        due.is("back to the first", x.back(), 0);
        due.is("F as first kept", x.road(0, 3), 25);
        due.is("shut as first kept", x.count(2), 0);
        due.is("sum as first kept", x.at(1), 55);
        x.forget();
        due.is("back no more", x.back(), -2);
        due.is("what was forgotten stays so", x.count(5), 0);
    }

    private static void counts() {
        SumsThatDiffer x = Due.laid("n6;r0,0,1,25,15;r0,1,2,30,10;s0,1;j0;j1;j1;j0;");
        x.cross(0);
        x.cross(1);
        x.cross(1);
        x.shut(0, true);
        x.tell(0, 1, 0, 1, 6);
        x.tell(0, 1, 0, 1, 7);
        x.keep();
        int[] counts = {6, 2, 1, 4, 3, 2, 4, 1, 46, -1};
        for (int what = 0; what < counts.length; what++) {
            due.is("count(" + what + ")", x.count(what), counts[what]);
        }
        due.is("count(-1)", x.count(-1), -1);
    }
}
