/** Promises 20 to 23: TOLD, forgotten, WRONG, WALK. */
public final class ToldTest {
    private static final Due due = new Due("ToldTest");

    public static void main(String[] args) {
        telling();
        wrongOne();
        wrongByBothWays();
        wrongOfKinds();
        walks();
        walksAsTheyAre();
        due.end();
    }

    private static void telling() {
        SumsThatDiffer x = new SumsThatDiffer();
        int[][] bad = {
            {-1, 50, 0, -4, 5}, {4, 50, 0, -4, 5}, {0, -1, 0, -4, 5}, {0, 1000, 0, -4, 5},
            {0, 50, -1, -4, 5}, {0, 50, 5, -4, 5}, {0, 50, -4, -4, 5}, {0, 50, 1, -4, 5},
            {0, 50, 0, -1, 5}, {0, 50, 0, -3, 5}, {0, 50, 0, -5, 5}, {0, 50, 0, 5, 5}, {0, 50, 0, 3, 5},
            {0, 50, 0, 2, 5}, {0, 50, 0, -4, -1}, {0, 50, 0, -4, 1000}, {2, 50, 3, -4, 5},
            {Integer.MIN_VALUE, 50, 0, -4, 5}, {0, 50, Integer.MAX_VALUE, -4, 5}, {0, 50, 0, Integer.MIN_VALUE, 5}
        };
        for (int[] b : bad) {
            due.is("tell(" + b[0] + ", " + b[1] + ", " + b[2] + ", " + b[3] + ", " + b[4] + ")",
                    x.tell(b[0], b[1], b[2], b[3], b[4]), -1);
        }
        due.is("none is told", x.count(5), 0);
        due.is("tell", x.tell(0, 0, 0, -4, 999), 1);
        due.is("tell, from the other end, home by the same", x.tell(1, 999, 0, 0, 0), 2);
        x.shut(4, true);
        due.is("tell, by a shut road", x.tell(0, 50, 4, 1, 5), 3);
        x.tell(3, 5, 3, 0, 5);
        x.tell(3, 5, 2, 1, 5);
        due.is("the sixth", x.tell(2, 5, 2, -4, 5), 6);
        due.is("the seventh", x.tell(2, 5, 2, -4, 5), -3);
        due.is("bad ahead of full", x.tell(2, 5, 0, -4, 5), -1);
        due.is("count(5)", x.count(5), 6);
        due.is("nothing to undo but the shutting", x.count(6), 1);
        due.is("forget", x.forget(), 6);
        due.is("forget again", x.forget(), 0);
        due.is("tell again", x.tell(2, 5, 2, -4, 5), 1);
    }

    private static void wrongOne() {
        SumsThatDiffer x = Due.laid("r0,0,1,25,15;r0,1,2,22,18;r0,2,3,20,20;");
        due.is("nothing is told", x.wrong(), 7);
        x.tell(0, 50, 0, 1, 57);
        due.is("as they are", x.wrong(), 7);
        x.tell(0, 50, 0, 1, 57);
        x.tell(2, 50, 2, -4, 50);
        due.is("as they are still", x.wrong(), 7);
        x.forget();
        x.tell(0, 50, 0, 1, 58);
        due.is("one of two", x.wrong(), 3);
        x.tell(0, 50, 0, -4, 55);
        due.is("the first is right", x.wrong(), 2);
        x.tell(2, 50, 2, -4, 51);
        due.is("two would be wrong", x.wrong(), 0);
        x.mend(2, 21, 19);
        due.is("the other is mended", x.wrong(), 2);
        x.mend(1, 23, 0);
        due.is("all are so now", x.wrong(), 7);
        x.shut(0, true);
        x.shut(1, true);
        due.is("shut ones count", x.wrong(), 7);
        x.forget();
        x.tell(0, 50, 0, -4, 71);
        due.is("more than 20", x.wrong(), 0);
        x.forget();
        x.tell(0, 50, 0, -4, 70);
        due.is("just 20", x.wrong(), 1);
        x.tell(0, 50, 0, -4, 69);
        due.is("not both", x.wrong(), 0);
        due.is("F stays", x.road(0, 3), 25);
        due.is("no roads", Due.laid("n2;").wrong(), 0);
    }

    private static void wrongByBothWays() {
        SumsThatDiffer x = Due.laid("r0,0,1,25,15;r0,0,1,20,20;");
        x.tell(0, 50, 0, 0, 90);
        due.is("40 more, there and back", x.wrong(), 1);
        x.tell(1, 50, 0, -4, 69);
        due.is("but 19 back", x.wrong(), 0);
        x.forget();
        x.tell(0, 50, 0, 0, 60);
        x.tell(1, 50, 0, -4, 42);
        due.is("18 there, 8 less back", x.wrong(), 1);
        x.tell(0, 50, 0, -4, 68);
        due.is("told each way", x.wrong(), 1);
        x.tell(0, 50, 0, -4, 69);
        due.is("not so", x.wrong(), 0);
        x.forget();
        x.tell(0, 10, 0, 0, 0);
        due.is("cut at 0 on the way", x.wrong(), 1);
        x.tell(0, 0, 0, 0, 20);
        due.is("10 less and none, 0 less and 20", x.wrong(), 0);
    }

    private static void wrongOfKinds() {
        SumsThatDiffer x = Due.laid("r1,0,1,20,20;r3,0,1,20,20;r2,0,1,20,20;");
        x.tell(0, 50, 0, -4, 53);
        due.is("no bridge leads to 53", x.wrong(), 0);
        x.forget();
        x.tell(0, 50, 0, -4, 55);
        due.is("a bridge leads to 55", x.wrong(), 1);
        x.forget();
        x.tell(0, 50, 1, -4, 55);
        due.is("no double leads 5 on", x.wrong(), 0);
        x.forget();
        x.tell(0, 50, 1, -4, 90);
        due.is("a double leads 40 on", x.wrong(), 2);
        x.forget();
        x.tell(0, 50, 2, -4, 70);
        due.is("no toll leads 20 on", x.wrong(), 0);
        x.forget();
        x.tell(0, 50, 2, -4, 69);
        due.is("a toll leads 19 on", x.wrong(), 4);
    }

    private static void walk(String call, SumsThatDiffer x, int road, int sums) {
        due.is("walk(0), " + call, x.walk(0), road);
        due.is("walk(1), " + call, x.walk(1), sums);
    }

    private static void walks() {
        SumsThatDiffer x = Due.laid("r1,0,1,25,15;r0,0,2,22,18;r0,3,0,20,20;r2,2,3,20,20;");
        walk("nothing told: 30 to 70 by a bridge are 9, by a plain one 41", x, 1, 41);
        x.shut(1, true);
        walk("one is shut", x, 2, 41);
        x.shut(2, true);
        walk("a bridge alone", x, 0, 9);
        x.shut(0, true);
        walk("none can be crossed", x, -4, -4);
        due.is("walk(2), bad ahead of none", x.walk(2), -1);
        due.is("walk(-1)", x.walk(-1), -1);
        x.shut(0, false);
        x.tell(2, 50, 3, -4, 60);
        walk("another is wrong", x, 0, 1);
        x.tell(0, 50, 1, -4, 60);
        walk("none is wrong", x, -4, -4);
        SumsThatDiffer low = Due.laid("r0,0,1,25,15;s0,5;");
        walk("from 5, cut at 0", low, 0, 26);
        low.cross(0);
        walk("back from 10", low, 0, 31);
        due.is("nothing walked", low.at(1), 10);
        due.is("no roads", Due.laid("n2;").walk(0), -4);
    }

    private static void walksAsTheyAre() {
        SumsThatDiffer x = Due.laid("r0,0,1,25,15;r0,1,2,22,18;r0,0,3,20,20;");
        x.tell(0, 50, 0, 1, 60);
        walk("road 0 as it is, or F of 28", x, 0, 2);
        x.tell(0, 0, 0, -4, 5);
        walk("road 1 is the wrong one", x, 0, 1);
        x.forget();
        x.tell(0, 50, 0, 0, 50);
        walk("there and back: road 0 could have each", x, 0, 41);
        x.tell(1, 50, 0, -4, 45);
        walk("back is known: others could be, but not road 0", x, 1 + 1, 41);
        x.shut(2, true);
        walk("so road 0 has one sum", x, 0, 1);
        SumsThatDiffer y = Due.laid("r0,0,1,25,15;r0,0,1,20,20;");
        y.tell(0, 0, 0, -4, 6);
        walk("one way is told, the sum is 56 alone", y, 0, 1);
        y.cross(0);
        walk("back by it there could be 41", y, 0, 41);
        y.tell(1, 0, 0, -4, 0);
        walk("back it is cut to 0: F 26, G up to 20", y, 0, 21);
        y.tell(1, 10, 0, -4, 5);
        walk("back it is 15", y, 0, 1);
    }
}
