/** Promises 1 to 7: a new object, THE TEXT, FAULT, LAID, ROADS, where one is. */
public final class CountiesTest {
    private static final Due due = new Due("CountiesTest");

    public static void main(String[] args) {
        newObject();
        writing();
        faultsOfForm();
        faultsOfPlaces();
        faultsOfRoads();
        faultsOfStartsAndSteps();
        laying();
        layingStartsAnew();
        roads();
        where();
        due.end();
    }

    private static void newObject() {
        SumsThatDiffer x = new SumsThatDiffer();
        int[] counts = {4, 5, 0, 3, 0, 0, 0, 0, 0, -1};
        for (int what = 0; what < counts.length; what++) {
            due.is("new count(" + what + ")", x.count(what), counts[what]);
        }
        int[][] roads = {{0, 0, 1, 31, 9, 0}, {0, 1, 2, 18, 22, 0}, {1, 2, 3, 25, 15, 0}, {2, 3, 0, 20, 20, 0}, {0, 0, 2, 24, 16, 0}};
        for (int r = 0; r < 5; r++) {
            for (int what = 0; what < 6; what++) {
                due.is("new road(" + r + ", " + what + ")", x.road(r, what), roads[r][what]);
            }
        }
        due.is("new at(0)", x.at(0), 0);
        due.is("new at(1)", x.at(1), 50);
        due.is("new journey(1, 0)", x.journey(1, 0), 1);
        due.is("new journey(2, 0)", x.journey(2, 0), 2);
        due.is("new journey(3, 0)", x.journey(3, 0), 0);
        due.is("new undo", x.undo(), -2);
        due.is("new back", x.back(), -2);
        due.is("new lay, its text is empty", x.lay(), -2);
        due.is("new wipe", x.wipe(), 0);
    }

    private static void writing() {
        SumsThatDiffer x = new SumsThatDiffer();
        due.is("write(31)", x.write(31), -1);
        due.is("write(127)", x.write(127), -1);
        due.is("write(-1)", x.write(-1), -1);
        due.is("write(65536 + 110)", x.write(65536 + 110), -1);
        due.is("count(8)", x.count(8), 0);
        due.is("write(32)", x.write(32), 1);
        due.is("write(126)", x.write(126), 2);
        due.is("wipe", x.wipe(), 2);
        due.is("wipe again", x.wipe(), 0);
        for (int i = 1; i <= 200; i++) {
            due.is("write the " + i + "th", x.write(';'), i);
        }
        due.is("write the 201st", x.write(';'), -3);
        due.is("write a bad one where it is full", x.write(127), -1);
        due.is("count(8) where it is full", x.count(8), 200);
        due.is("wipe 200", x.wipe(), 200);
        due.is("write behind wipe", x.write('n'), 1);
    }

    private static void fault(String text, int want) {
        SumsThatDiffer x = new SumsThatDiffer();
        Due.write(x, text);
        due.is("fault of " + text, x.fault(), want);
        due.is("lay of " + text, x.lay() == -2 ? 1 : 0, want >= 0 || text.isEmpty() ? 1 : 0);
        due.is("letters of " + text, x.count(8), text.length());
    }

    private static void faultsOfForm() {
        fault("", -4);
        fault(" ", 0);
        fault("x1;", 0);
        fault(";", 0);
        fault("n", 0);
        fault("n4", 0);
        fault("n;", 0);
        fault("n4;;", 3);
        fault("n4; ", 3);
        fault("n4;n", 3);
        fault("n04;", -4);
        fault("n004;", 0);
        fault("n4,;", 0);
        fault("n4,4;", 0);
        fault("n-4;", 0);
        fault("N4;", 0);
        fault("s1;", 0);
        fault("s1,2,3;", 0);
        fault("s,2;", 0);
        fault("s1;2;", 0);
        fault("s01,05;", -4);
        fault("s1,005;", 0);
        fault("s1,100;", 0);
        fault("r0,0,1,20;", 0);
        fault("r0,0,1,20,20,0;", 0);
        fault("r0,0,1,20,20", 0);
        fault("r0,0,1,20,20,", 0);
        fault("r00,00,01,20,20;", -4);
        fault("r000,0,1,20,20;", 0);
        fault("r0,0,1,20,20;j;", 13);
        fault("r0,0,1,20,20;j0,0;", 13);
        fault("r0,0,1,20,20;j0;k", 16);
        String nearlyFull = "s0,00;".repeat(33);
        fault(nearlyFull + "n", 198);
        fault(nearlyFull + "s1", 198);
        fault(nearlyFull + "  ", 198);
        fault("s0,0;" + "s0,00;".repeat(32) + "j0", 197);
        fault("s0,0;" + "s0,00;".repeat(32) + "s0,", 197);
        fault("s0,0;".repeat(40), -4);
        fault("r0,0,1,20,20;j00;j:;", 17);
    }

    private static void faultsOfPlaces() {
        fault("n1;", 0);
        fault("n2;", -4);
        fault("n6;", -4);
        fault("n7;", 0);
        fault("n0;", 0);
        fault("n2;n3;n6;", -4);
        fault("n2;n7;", 3);
        fault("s0,5;n3;", 5);
        fault("n3;s0,5;n3;", 8);
        fault("r0,0,1,20,20;n4;", 13);
        fault("r0,0,1,20,20;j0;n4;", 16);
        SumsThatDiffer x = Due.laid("n2;n6;n3;");
        due.is("places by the last n", x.count(0), 3);
        due.is("places without n", Due.laid("s3,7;").count(0), 4);
        SumsThatDiffer y = Due.laid("n2;s1,7;");
        y.wipe();
        Due.write(y, "r0,2,3,20,20;");
        due.is("lay behind a text with n2", y.lay(), 1);
        due.is("places are 4 again", y.count(0), 4);
        due.is("one sets out from 0 again", y.at(0), 0);
        due.is("with 50 again", y.at(1), 50);
    }

    private static void faultsOfRoads() {
        fault("r3,0,1,0,40;", -4);
        fault("r4,0,1,0,40;", 0);
        fault("r0,0,0,20,20;", 0);
        fault("r0,3,0,20,20;", -4);
        fault("r0,4,0,20,20;", 0);
        fault("r0,0,4,20,20;", 0);
        fault("n2;r0,0,2,20,20;", 3);
        fault("n2;r0,2,0,20,20;", 3);
        fault("n6;r0,5,4,20,20;", -4);
        fault("r0,0,1,41,20;", 0);
        fault("r0,0,1,20,41;", 0);
        fault("r0,0,1,40,40;r0,0,1,0,0;", -4);
        String nine = "r0,0,1,5,5;".repeat(9);
        fault(nine, -4);
        fault(nine + "r0,0,1,5,5;", 99);
        due.is("nine roads", Due.laid(nine).count(1), 9);
    }

    private static void faultsOfStartsAndSteps() {
        fault("s3,0;", -4);
        fault("s4,0;", 0);
        fault("n2;s1,99;", -4);
        fault("n2;s1,99;s2,0;", 9);
        fault("s0,1;s1,2;s2,3;", -4);
        fault("j0;", 0);
        fault("j0;r0,0,1,20,20;", 0);
        fault("r0,0,1,20,20;j0;j1;", 16);
        fault("r0,0,1,20,20;j0;r0,2,3,20,20;j1;", -4);
        String nine = "r0,0,1,20,20;" + "j0;".repeat(9);
        fault(nine, -4);
        fault(nine + "j0;", 40);
        due.is("nine steps", Due.laid(nine).count(3), 9);
        SumsThatDiffer x = Due.laid("s3,9;s2,8;s1,7;");
        due.is("the last s counts, where", x.at(0), 1);
        due.is("the last s counts, sum", x.at(1), 7);
        SumsThatDiffer y = Due.laid("n5;");
        due.is("without s, where", y.at(0), 0);
        due.is("without s, sum", y.at(1), 50);
    }

    private static void laying() {
        SumsThatDiffer x = new SumsThatDiffer();
        Due.write(x, "n3;r2,2,1,7,8;s2,30;j0;");
        due.is("nothing changes by writing", x.count(1), 5);
        due.is("fault leaves what is laid alone", x.fault(), -4);
        due.is("roads behind fault", x.count(1), 5);
        due.is("at behind fault", x.at(1), 50);
        due.is("lay", x.lay(), 1);
        due.is("the text stays", x.count(8), 23);
        int[] road = {2, 2, 1, 7, 8, 0};
        for (int what = 0; what < 6; what++) {
            due.is("laid road(0, " + what + ")", x.road(0, what), road[what]);
        }
        due.is("a road that was is no more", x.road(1, 0), -1);
        due.is("laid steps", x.count(3), 1);
        due.is("laid journey", x.journey(1, 0), 1);
        due.is("laid sum", x.at(1), 30);
        x.write('x');
        due.is("lay with a fault", x.lay(), -2);
        due.is("nothing changes then: roads", x.count(1), 1);
        due.is("nothing changes then: sum", x.at(1), 30);
        due.is("nothing changes then: text", x.count(8), 24);
        x.wipe();
        due.is("lay of nothing", x.lay(), -2);
        Due.write(x, "n3;");
        due.is("lay without roads", x.lay(), 0);
    }

    private static void layingStartsAnew() {
        SumsThatDiffer x = Due.laid("r0,0,1,21,19;s1,9;j0;");
        x.keep();
        x.keep();
        x.tell(0, 5, 0, -4, 6);
        x.mend(0, 1, 2);
        x.cross(0);
        x.shut(0, true);
        due.is("lay again", x.lay(), 1);
        for (int what = 0; what < 8; what++) {
            int[] counts = {4, 1, 0, 1, 0, 0, 0, 0};
            due.is("laid again count(" + what + ")", x.count(what), counts[what]);
        }
        due.is("laid again at(0)", x.at(0), 1);
        due.is("laid again at(1)", x.at(1), 9);
        due.is("laid again F", x.road(0, 3), 21);
        due.is("laid again G", x.road(0, 4), 19);
        due.is("laid again shut", x.road(0, 5), 0);
        due.is("laid again undo", x.undo(), -2);
        due.is("laid again back", x.back(), -2);
        x.tell(0, 5, 0, -4, 6);
        x.cross(0);
        x.keep();
        x.write('!');
        due.is("lay that fails", x.lay(), -2);
        due.is("what is told stays then", x.count(5), 1);
        due.is("what can be undone stays then", x.count(6), 1);
        due.is("what is kept stays then", x.count(7), 1);
    }

    private static void roads() {
        SumsThatDiffer x = new SumsThatDiffer();
        int[][] bad = {{-1, 0}, {5, 0}, {Integer.MIN_VALUE, 0}, {Integer.MAX_VALUE, 0}, {0, -1}, {0, 6}, {0, Integer.MAX_VALUE}, {9, 9}};
        for (int[] b : bad) {
            due.is("road(" + b[0] + ", " + b[1] + ")", x.road(b[0], b[1]), -1);
        }
        x.shut(1, true);
        x.mend(2, 3, 4);
        due.is("road(1, 5) shut", x.road(1, 5), 1);
        due.is("road(0, 5) open", x.road(0, 5), 0);
        due.is("road(2, 3) mended", x.road(2, 3), 3);
        due.is("road(2, 4) mended", x.road(2, 4), 4);
    }

    private static void where() {
        SumsThatDiffer x = Due.laid("r0,2,3,25,15;s2,99;");
        due.is("at(0)", x.at(0), 2);
        due.is("at(1)", x.at(1), 99);
        due.is("at(-1)", x.at(-1), -1);
        due.is("at(2)", x.at(2), -1);
        x.cross(0);
        due.is("at(0) behind a crossing", x.at(0), 3);
        due.is("at(1) behind a crossing", x.at(1), 104);
    }
}
