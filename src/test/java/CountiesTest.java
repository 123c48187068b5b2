/** Promises 1 to 7: a new object, THE TEXT, FAULT, LAID, ROADS, where one is. */
public final class CountiesTest {
    private static final Due due = new Due("CountiesTest");

    public static void main(String[] args) {
        laidAtFirst();
        nothingElseAtFirst();
        twoObjectsApart();
        theLastOf512Calls();

        letters();
        twoHundredLetters();
        badAheadOfFull();
        behindTheText();
        wiping();

        noFault();
        itemLetters();
        oneOrTwoFigures();
        partedAndEnded();
        howManyNumbers();
        howManyPlaces();
        placesFirst();
        kinds();
        unlikeEnds();
        endsThatThereAre();
        figuresOfRoads();
        nineRoads();
        startsThatThereAre();
        sumsToSetOutWith();
        theLastStartCounts();
        stepsToldAhead();
        nineSteps();
        firstOfSeveralFaults();
        faultsAtTheEndOfAFullText();

        layingNothing();
        layingAFault();
        howManyRoadsAreLaid();
        settingOut();
        layingStartsAnew();
        layingLess();
        theTextStays();

        roads();
        badRoads();
        where();
        due.end(1, 2, 3, 4, 5, 6, 7);
    }

    // ---- promise 1

    private static void laidAtFirst() {
        due.by(1, "at first n4;r0,0,1,31,9;r0,1,2,18,22;r1,2,3,25,15;r2,3,0,20,20;r0,0,2,24,16;s0,50;j0;j1;j4;");
        SumsThatDiffer x = new SumsThatDiffer();
        int[][] roads = {{0, 0, 1, 31, 9, 0}, {0, 1, 2, 18, 22, 0}, {1, 2, 3, 25, 15, 0}, {2, 3, 0, 20, 20, 0}, {0, 0, 2, 24, 16, 0}};
        for (int r = 0; r < 5; r++) {
            for (int what = 0; what < 6; what++) {
                due.is("road(" + r + ", " + what + ")", x.road(r, what), roads[r][what]);
            }
        }
        due.is("count(0)", x.count(0), 4);
        due.is("count(1)", x.count(1), 5);
        due.is("at(0)", x.at(0), 0);
        due.is("at(1)", x.at(1), 50);
        due.is("count(3)", x.count(3), 3);
        due.is("journey(1, 0)", x.journey(1, 0), 1);
        due.is("journey(2, 0)", x.journey(2, 0), 2);
        due.is("journey(3, 0)", x.journey(3, 0), 0);
    }

    private static void nothingElseAtFirst() {
        due.by(1, "nothing SHUT, TOLD, UNDONE, KEPT");
        SumsThatDiffer x = new SumsThatDiffer();
        int[] none = {2, 4, 5, 6, 7, 8};
        for (int what : none) {
            due.is("count(" + what + ")", x.count(what), 0);
        }
        due.is("undo()", x.undo(), -2);
        due.is("back()", x.back(), -2);
        due.is("forget()", x.forget(), 0);
        due.is("lay(), its text is empty", x.lay(), -2);
        due.is("wipe()", x.wipe(), 0);
    }

    private static void twoObjectsApart() {
        due.by(1, "As told.");
        SumsThatDiffer x = new SumsThatDiffer();
        SumsThatDiffer y = new SumsThatDiffer();
        x.cross(0);
        x.mend(4, 1, 2);
        x.keep();
        x.tell(0, 5, 0, -4, 5);
        Due.write(x, "n2;");
        x.lay();
        due.is("at(1) of another", y.at(1), 50);
        due.is("road(4, 3) of another", y.road(4, 3), 24);
        int[] counts = {4, 5, 0, 3, 0, 0, 0, 0, 0};
        for (int what = 0; what < counts.length; what++) {
            due.is("count(" + what + ") of another", y.count(what), counts[what]);
        }
    }

    private static void theLastOf512Calls() {
        due.by(1, "An object is used for at most 512 calls after it has been made");
        SumsThatDiffer x = new SumsThatDiffer();
        for (int call = 1; call <= 509; call++) {
            due.is("cross(0), call " + call, x.cross(0), call % 2 == 1 ? 61 : 50);
        }
        due.is("count(4), call 510", x.count(4), 509);
        due.is("undo(), call 511", x.undo(), 7);
        due.is("at(1), call 512", x.at(1), 50);
    }

    // ---- promises 2 and 3

    private static void letters() {
        due.by(2, "A letter (32 to 126, as in ASCII)");
        SumsThatDiffer x = new SumsThatDiffer();
        int[] bad = {31, 127, 0, -1, -32, 128, 255, 256 + 48, 65536 + 110, Integer.MIN_VALUE, Integer.MAX_VALUE};
        for (int letter : bad) {
            due.is("write(" + letter + ")", x.write(letter), -1);
        }
        due.is("count(8)", x.count(8), 0);
        for (int letter = 32; letter <= 126; letter++) {
            due.is("write(" + letter + ")", x.write(letter), letter - 31);
        }
    }

    private static void twoHundredLetters() {
        due.by(2, "A TEXT is letters (200 at most)");
        SumsThatDiffer x = new SumsThatDiffer();
        for (int i = 1; i <= 200; i++) {
            due.is("write the " + i + "th", x.write(i % 5 == 1 ? 's' : i % 5 == 3 ? ',' : i % 5 == 0 ? ';' : '1'), i);
        }
        due.is("write the 201st", x.write('x'), -3);
        due.is("write the 201st again", x.write('x'), -3);
        due.is("it is none of the text: count(8)", x.count(8), 200);
        due.is("it is none of the text: fault()", x.fault(), -4);
        due.is("wipe()", x.wipe(), 200);
        due.is("write where it was full", x.write('n'), 1);
    }

    private static void badAheadOfFull() {
        due.by(2, "Of several the first in this order, whatever the order at a call");
        SumsThatDiffer x = new SumsThatDiffer();
        Due.write(x, ";".repeat(200));
        due.is("write(31) where it is full", x.write(31), -1);
        due.is("write(127) where it is full", x.write(127), -1);
        due.is("count(8)", x.count(8), 200);
    }

    private static void behindTheText() {
        due.by(2, "comes behind THE TEXT: how long it is");
        SumsThatDiffer x = new SumsThatDiffer();
        Due.write(x, "n3;");
        x.lay();
        due.is("write behind lay()", x.write('s'), 4);
        due.is("write on", x.write('4'), 5);
        due.is("fault()", x.fault(), 3);
        due.is("write behind fault()", x.write(','), 6);
    }

    private static void wiping() {
        due.by(3, "THE TEXT is empty: how long it was.");
        SumsThatDiffer x = new SumsThatDiffer();
        due.is("wipe() of none", x.wipe(), 0);
        Due.write(x, "x");
        due.is("wipe() of one", x.wipe(), 1);
        due.is("wipe() again", x.wipe(), 0);
        Due.write(x, "n3;s2,5;");
        x.lay();
        due.is("wipe() behind lay()", x.wipe(), 8);
        due.is("it is empty: count(8)", x.count(8), 0);
        due.is("it is empty: fault()", x.fault(), -4);
        due.is("it is empty: lay()", x.lay(), -2);
        due.is("what is laid stays: count(0)", x.count(0), 3);
        due.is("what is laid stays: at(0)", x.at(0), 2);
    }

    // ---- promise 4

    /** A text's fault; it can be laid if it has none and is not empty; neither changes it. */
    private static void fault(String text, int want) {
        SumsThatDiffer x = new SumsThatDiffer();
        Due.write(x, text);
        due.is("fault() of " + text, x.fault(), want);
        due.is("lay() of " + text + " is NO", x.lay() == -2 ? 1 : 0, want >= 0 || text.isEmpty() ? 1 : 0);
        due.is("count(8) of " + text, x.count(8), text.length());
    }

    private static void noFault() {
        due.by(4, "FAULT. NONE.");
        fault("", -4);
        fault("n4;r0,0,1,31,9;r0,1,2,18,22;r1,2,3,25,15;r2,3,0,20,20;r0,0,2,24,16;s0,50;j0;j1;j4;", -4);
        SumsThatDiffer x = new SumsThatDiffer();
        Due.write(x, "n3;r2,2,1,7,8;s2,30;j0;");
        due.is("fault()", x.fault(), -4);
        due.is("what is laid stays: count(0)", x.count(0), 4);
        due.is("what is laid stays: count(1)", x.count(1), 5);
        due.is("what is laid stays: count(3)", x.count(3), 3);
        due.is("what is laid stays: at(1)", x.at(1), 50);
    }

    private static void itemLetters() {
        due.by(4, "ITEMS one behind the other, each a letter");
        String others = " !,;0123456789:@ANRSJ[`amopqtz~";
        for (int i = 0; i < others.length(); i++) {
            fault(others.charAt(i) + "1;", 0);
        }
        fault(";", 0);
        fault("n4;;", 3);
        fault("n4; ", 3);
        fault("n4; s1,2;", 3);
        fault("n4;nn4;", 3);
        fault("s1,2;s1,2;", -4);
    }

    private static void oneOrTwoFigures() {
        due.by(4, "numbers (one or two figures)");
        fault("n;", 0);
        fault("n4;", -4);
        fault("n04;", -4);
        fault("n004;", 0);
        fault("s,2;", 0);
        fault("s1,;", 0);
        fault("s01,05;", -4);
        fault("s001,5;", 0);
        fault("s1,005;", 0);
        fault("s1,100;", 0);
        fault("r00,00,01,20,20;", -4);
        fault("r000,0,1,20,20;", 0);
        fault("r0,000,1,20,20;", 0);
        fault("r0,0,001,20,20;", 0);
        fault("r0,0,1,020,20;", 0);
        fault("r0,0,1,20,020;", 0);
        fault("r0,0,1,20,20;j00;", -4);
        fault("r0,0,1,20,20;j000;", 13);
        String beside = "/:-+.a ";
        for (int i = 0; i < beside.length(); i++) {
            fault("s1," + beside.charAt(i) + ";", 0);
            fault("s1,1" + beside.charAt(i) + ";", 0);
            fault("s1," + beside.charAt(i) + "1;", 0);
        }
        fault("s0,0;s1,9;", -4);
    }

    private static void partedAndEnded() {
        due.by(4, "parted by , and a ; behind the last one");
        fault("n4", 0);
        fault("n4,", 0);
        fault("n4,;", 0);
        fault("n4:", 0);
        fault("s1,2", 0);
        fault("s1,2,", 0);
        fault("s1;2;", 0);
        fault("s12;", 0);
        fault("s1,,2;", 0);
        fault("s1 ,2;", 0);
        fault("s1,2 ;", 0);
        fault("r0,0,1,20,20", 0);
        fault("r0,0,1,20,20,", 0);
        fault("r0;0,1,20,20;", 0);
        fault("r0,0;1,20,20;", 0);
        fault("r0,0,1;20,20;", 0);
        fault("r0,0,1,20;20;", 0);
        fault("r0,0,1,20,20;j0", 13);
        fault("r0,0,1,20,20;j0,", 13);
        fault("s1,2;s1,2", 5);
        fault("s", 0);
        fault("s1", 0);
        fault("s1,", 0);
    }

    private static void howManyNumbers() {
        due.by(4, "each a letter, then numbers");
        fault("n4,4;", 0);
        fault("s1;", 0);
        fault("s1,2,3;", 0);
        fault("r0,0,1,20;", 0);
        fault("r0,0,1,20,20,0;", 0);
        fault("r;", 0);
        fault("r0,0,1,20,20;j;", 13);
        fault("r0,0,1,20,20;j0,0;", 13);
    }

    private static void howManyPlaces() {
        due.by(4, "nN there are N PLACES, 0 to N less 1 (2 to 6; 4 without;");
        fault("n0;", 0);
        fault("n1;", 0);
        for (int n = 2; n <= 6; n++) {
            fault("n" + n + ";", -4);
            due.is("count(0) of n" + n, Due.laid("n" + n + ";").count(0), n);
        }
        fault("n7;", 0);
        fault("n02;", -4);
        fault("n20;", 0);
        fault("n99;", 0);
        due.is("count(0) without n", Due.laid("s3,7;").count(0), 4);
        SumsThatDiffer x = Due.laid("n2;s1,7;");
        x.wipe();
        Due.write(x, "r0,2,3,20,20;");
        due.is("lay() without n behind a text with n2", x.lay(), 1);
        due.is("count(0), 4 again", x.count(0), 4);
    }

    private static void placesFirst() {
        due.by(4, "no other ITEM ahead of it but n");
        fault("n2;n3;n6;", -4);
        fault("n2;n7;", 3);
        fault("s0,5;n3;", 5);
        fault("n3;s0,5;n3;", 8);
        fault("r0,0,1,20,20;n4;", 13);
        fault("r0,0,1,20,20;j0;n4;", 16);
        due.is("count(0) by the last n", Due.laid("n2;n6;n3;").count(0), 3);
        fault("n6;n2;s2,0;", 6);
        fault("n2;n6;s5,0;", -4);
    }

    private static void kinds() {
        due.by(4, "a ROAD of KIND K (0 PLAIN, 1 BRIDGE, 2 TOLL, 3 DOUBLE)");
        for (int k = 0; k <= 3; k++) {
            fault("r" + k + ",0,1,0,40;", -4);
            due.is("road(0, 0)", Due.laid("r" + k + ",0,1,0,40;").road(0, 0), k);
        }
        fault("r4,0,1,0,40;", 0);
        fault("r03,0,1,0,40;", -4);
        fault("r30,0,1,0,40;", 0);
    }

    private static void unlikeEnds() {
        due.by(4, "from PLACE A to B (unlike)");
        fault("r0,0,0,20,20;", 0);
        fault("r0,3,3,20,20;", 0);
        fault("r0,2,02,20,20;", 0);
        fault("r0,3,0,20,20;r0,0,3,20,20;", -4);
    }

    private static void endsThatThereAre() {
        due.by(4, "(PLACES, ROADS: such as there are)");
        fault("r0,3,0,20,20;", -4);
        fault("r0,4,0,20,20;", 0);
        fault("r0,0,4,20,20;", 0);
        fault("n2;r0,1,0,20,20;", -4);
        fault("n2;r0,0,2,20,20;", 3);
        fault("n2;r0,2,0,20,20;", 3);
        fault("n6;r0,5,4,20,20;", -4);
        fault("n6;r0,4,6,20,20;", 3);
        fault("n6;r0,6,4,20,20;", 3);
        fault("r0,0,99,20,20;", 0);
    }

    private static void figuresOfRoads() {
        due.by(4, "(F, G 0 to 40)");
        fault("r0,0,1,0,0;", -4);
        fault("r0,0,1,40,40;", -4);
        fault("r0,0,1,41,20;", 0);
        fault("r0,0,1,20,41;", 0);
        fault("r0,0,1,99,20;", 0);
        fault("r0,0,1,20,99;", 0);
        SumsThatDiffer x = Due.laid("r0,0,1,0,40;r0,0,1,40,00;");
        due.is("road(0, 3)", x.road(0, 3), 0);
        due.is("road(0, 4)", x.road(0, 4), 40);
        due.is("road(1, 3)", x.road(1, 3), 40);
        due.is("road(1, 4)", x.road(1, 4), 0);
    }

    private static void nineRoads() {
        due.by(4, "9 at most, 0, 1, ..");
        StringBuilder nine = new StringBuilder();
        for (int r = 0; r < 9; r++) {
            nine.append("r0,0,1,").append(r).append(",9;");
        }
        fault(nine.toString(), -4);
        fault(nine + "r0,0,1,5,5;", 99);
        fault(nine + "j8;", -4);
        fault(nine + "j9;", 99);
        SumsThatDiffer x = Due.laid(nine.toString());
        due.is("count(1)", x.count(1), 9);
        for (int r = 0; r < 9; r++) {
            due.is("road(" + r + ", 3)", x.road(r, 3), r);
        }
    }

    private static void startsThatThereAre() {
        due.by(4, "sP,S one sets out from PLACE P (such as there is)");
        fault("s0,0;", -4);
        fault("s3,0;", -4);
        fault("s4,0;", 0);
        fault("n2;s1,99;", -4);
        fault("n2;s2,99;", 3);
        fault("n6;s5,9;", -4);
        fault("n6;s6,9;", 3);
        fault("n6;s99,9;", 3);
        fault("n2;s1,99;s2,0;", 9);
    }

    private static void sumsToSetOutWith() {
        due.by(4, "with a sum of S (0 to 99; 0, 50 without;");
        fault("s1,0;", -4);
        fault("s1,99;", -4);
        fault("s1,100;", 0);
        due.is("at(1) of s1,0;", Due.laid("s1,0;").at(1), 0);
        due.is("at(1) of s1,99;", Due.laid("s1,99;").at(1), 99);
        due.is("at(0) without s", Due.laid("n5;").at(0), 0);
        due.is("at(1) without s", Due.laid("n5;").at(1), 50);
        SumsThatDiffer x = Due.laid("s3,7;");
        x.wipe();
        Due.write(x, "n4;");
        due.is("lay() without s behind a text with s", x.lay(), 0);
        due.is("at(0), 0 again", x.at(0), 0);
        due.is("at(1), 50 again", x.at(1), 50);
    }

    private static void theLastStartCounts() {
        due.by(4, "of several such the last one counts");
        SumsThatDiffer x = Due.laid("s3,9;s2,8;s1,7;");
        due.is("at(0)", x.at(0), 1);
        due.is("at(1)", x.at(1), 7);
        SumsThatDiffer y = Due.laid("s3,9;r0,1,2,25,15;s2,8;j0;");
        due.is("at(0), others between", y.at(0), 2);
        due.is("at(1), others between", y.at(1), 8);
        fault("s1,7;s4,7;s1,7;", 5);
    }

    private static void stepsToldAhead() {
        due.by(4, "jR THE JOURNEY goes on by ROAD R (told ahead)");
        fault("j0;", 0);
        fault("j0;r0,0,1,20,20;", 0);
        fault("r0,0,1,20,20;j0;", -4);
        fault("r0,0,1,20,20;j1;", 13);
        fault("r0,0,1,20,20;j1;r0,2,3,20,20;", 13);
        fault("r0,0,1,20,20;j0;r0,2,3,20,20;j1;", -4);
        fault("r0,0,1,20,20;j99;", 13);
    }

    private static void nineSteps() {
        due.by(4, "goes on by ROAD R (told ahead); 9 at most");
        String nine = "r0,0,1,20,20;" + "j0;".repeat(9);
        fault(nine, -4);
        fault(nine + "j0;", 40);
        fault(nine + "s0,5;j0;", 45);
        due.is("count(3)", Due.laid(nine).count(3), 9);
    }

    private static void firstOfSeveralFaults() {
        due.by(4, "FAULT: the place of the first letter of the first ITEM that is not so.");
        fault("x", 0);
        fault("n4;n7;n8;", 3);
        fault("n4;s4,5;x", 3);
        fault("s0,5;j0;n3;", 5);
        fault("r0,0,1,20,20;j00;j:;", 17);
        fault("r0,0,1,20,20;s1,1;r0,1,1,20,20;j0;", 18);
        SumsThatDiffer x = new SumsThatDiffer();
        Due.write(x, "n4;s1,");
        due.is("fault() of an ITEM without its end", x.fault(), 3);
        Due.write(x, "9;");
        due.is("fault() where its end has come", x.fault(), -4);
        Due.write(x, "s");
        due.is("fault() of the next without its end", x.fault(), 8);
    }

    private static void faultsAtTheEndOfAFullText() {
        due.by(4, "A TEXT is letters (200 at most)");
        fault("s0,0;".repeat(40), -4);
        String nearlyFull = "s0,00;".repeat(33);
        fault(nearlyFull, -4);
        fault(nearlyFull + "n", 198);
        fault(nearlyFull + "s1", 198);
        fault(nearlyFull + "  ", 198);
        String more = "s0,0;" + "s0,00;".repeat(32);
        fault(more + "j0", 197);
        fault(more + "s0,", 197);
        fault(more + ";;;", 197);
        fault("r0,0,1,20,20;j00;j00;" + "s0,0;".repeat(34) + "s0,00;j0;", -4);
    }

    // ---- promise 5

    private static void layingNothing() {
        due.by(5, "LAID is a TEXT without FAULT, not empty (NO else");
        SumsThatDiffer x = new SumsThatDiffer();
        due.is("lay() of nothing", x.lay(), -2);
        due.is("count(1), as it was", x.count(1), 5);
        Due.write(x, "n3;");
        due.is("lay() of n alone", x.lay(), 0);
        x.wipe();
        due.is("lay() of nothing again", x.lay(), -2);
        due.is("count(0), as it was", x.count(0), 3);
    }

    private static void layingAFault() {
        due.by(5, "NO: not as things stand.");
        SumsThatDiffer x = Due.laid("n3;r2,2,1,7,8;s2,30;j0;");
        x.tell(2, 5, 0, -4, 6);
        x.cross(0);
        x.shut(0, true);
        x.keep();
        x.write('!');
        due.is("lay()", x.lay(), -2);
        int[] counts = {3, 1, 1, 1, 1, 1, 2, 1, 24};
        for (int what = 0; what < counts.length; what++) {
            due.is("count(" + what + "), as it was", x.count(what), counts[what]);
        }
        due.is("at(0), as it was", x.at(0), 1);
        due.is("at(1), as it was", x.at(1), 16);
        due.is("road(0, 5), as it was", x.road(0, 5), 1);
        due.is("undo(), as it was", x.undo(), 1);
    }

    private static void howManyRoadsAreLaid() {
        due.by(5, "LAID: how many ROADS;");
        String[] texts = {"n6;", "r0,0,1,5,5;", "r0,0,1,5,5;".repeat(9)};
        int[] roads = {0, 1, 9};
        for (int i = 0; i < texts.length; i++) {
            SumsThatDiffer x = new SumsThatDiffer();
            Due.write(x, texts[i]);
            due.is("lay()", x.lay(), roads[i]);
            due.is("count(1)", x.count(1), roads[i]);
        }
        SumsThatDiffer y = Due.laid("n3;r2,2,1,7,8;s2,30;j0;");
        int[] road = {2, 2, 1, 7, 8, 0};
        for (int what = 0; what < 6; what++) {
            due.is("road(0, " + what + ")", y.road(0, what), road[what]);
        }
        due.is("count(3)", y.count(3), 1);
        due.is("journey(1, 0)", y.journey(1, 0), 1);
    }

    private static void settingOut() {
        due.by(5, "one has set out");
        SumsThatDiffer x = Due.laid("r0,0,1,25,15;s1,30;");
        due.is("at(0)", x.at(0), 1);
        due.is("at(1)", x.at(1), 30);
        x.cross(0);
        due.is("lay() again", x.lay(), 1);
        due.is("at(0) again", x.at(0), 1);
        due.is("at(1) again", x.at(1), 30);
    }

    private static void layingStartsAnew() {
        due.by(5, "nothing SHUT, TOLD, UNDONE, KEPT");
        SumsThatDiffer x = Due.laid("r0,0,1,21,19;s1,9;j0;");
        x.keep();
        x.keep();
        x.tell(0, 5, 0, -4, 7);
        x.mend(0, 1, 2);
        x.cross(0);
        x.shut(0, true);
        due.is("lay() again", x.lay(), 1);
        int[] counts = {4, 1, 0, 1, 0, 0, 0, 0};
        for (int what = 0; what < counts.length; what++) {
            due.is("count(" + what + ")", x.count(what), counts[what]);
        }
        due.is("road(0, 3)", x.road(0, 3), 21);
        due.is("road(0, 4)", x.road(0, 4), 19);
        due.is("road(0, 5)", x.road(0, 5), 0);
        due.is("undo()", x.undo(), -2);
        due.is("back()", x.back(), -2);
        due.is("forget()", x.forget(), 0);
        due.is("keep()", x.keep(), 1);
    }

    private static void layingLess() {
        due.by(5, "(PLACES, ROADS: such as there are)");
        SumsThatDiffer x = new SumsThatDiffer();
        Due.write(x, "n2;r3,1,0,7,8;");
        due.is("lay() of less than was laid", x.lay(), 1);
        due.is("road(1, 0), such as was", x.road(1, 0), -1);
        due.is("cross(1), such as was", x.cross(1), -1);
        due.is("height(2), such as was", x.height(2), -1);
        due.is("journey(1, 0), such as was", x.journey(1, 0), -1);
        x.wipe();
        Due.write(x, "n2;");
        due.is("lay() of no roads", x.lay(), 0);
        due.is("road(0, 0), such as was", x.road(0, 0), -1);
        due.is("mend(0, 20, 20), such as was", x.mend(0, 20, 20), -1);
        due.is("shut(0, true), such as was", x.shut(0, true), -1);
        due.is("wrong()", x.wrong(), 0);
    }

    private static void theTextStays() {
        due.by(5, "THE TEXT stays.");
        SumsThatDiffer x = new SumsThatDiffer();
        Due.write(x, "n3;r0,0,2,20,20;");
        x.lay();
        due.is("count(8)", x.count(8), 16);
        due.is("fault()", x.fault(), -4);
        Due.write(x, "j0;");
        due.is("lay() with more behind it", x.lay(), 1);
        due.is("count(3)", x.count(3), 1);
        due.is("wipe()", x.wipe(), 19);
    }

    // ---- promises 6 and 7

    private static void roads() {
        due.by(6, "KIND (what = 0), A (1), B (2), F (3), G (4), 1 if SHUT (5)");
        SumsThatDiffer x = Due.laid("r3,2,1,40,0;r1,0,3,5,6;");
        x.shut(1, true);
        x.mend(0, 3, 4);
        int[][] roads = {{3, 2, 1, 3, 4, 0}, {1, 0, 3, 5, 6, 1}};
        for (int r = 0; r < 2; r++) {
            for (int what = 0; what < 6; what++) {
                due.is("road(" + r + ", " + what + ")", x.road(r, what), roads[r][what]);
            }
        }
        x.shut(1, false);
        due.is("road(1, 5) where it is opened", x.road(1, 5), 0);
        x.undo();
        due.is("road(1, 5) where opening is UNDONE", x.road(1, 5), 1);
    }

    private static void badRoads() {
        due.by(6, "BAD: a number is none that is told (PLACES, ROADS: such as there are)");
        SumsThatDiffer x = new SumsThatDiffer();
        int[][] bad = {{-1, 0}, {5, 0}, {9, 0}, {32, 0}, {Integer.MIN_VALUE, 0}, {Integer.MAX_VALUE, 0}, {0, -1}, {0, 6}, {4, -1},
            {4, 6}, {0, Integer.MIN_VALUE}, {0, Integer.MAX_VALUE}, {5, 6}};
        for (int[] b : bad) {
            due.is("road(" + b[0] + ", " + b[1] + ")", x.road(b[0], b[1]), -1);
        }
        due.is("road(0, 0), none are laid", Due.laid("n2;").road(0, 0), -1);
        due.is("road(8, 4), nine are laid", Due.laid("r0,0,1,5,6;".repeat(9)).road(8, 4), 6);
        due.is("road(9, 4), nine are laid", Due.laid("r0,0,1,5,6;".repeat(9)).road(9, 4), -1);
    }

    private static void where() {
        due.by(7, "Where one is (what = 0), the sum (1). BAD.");
        SumsThatDiffer x = Due.laid("r0,2,3,25,15;s2,99;");
        due.is("at(0)", x.at(0), 2);
        due.is("at(1)", x.at(1), 99);
        due.is("at(-1)", x.at(-1), -1);
        due.is("at(2)", x.at(2), -1);
        due.is("at(MIN)", x.at(Integer.MIN_VALUE), -1);
        due.is("at(MAX)", x.at(Integer.MAX_VALUE), -1);
        x.cross(0);
        due.is("at(0) behind a crossing", x.at(0), 3);
        due.is("at(1) behind a crossing", x.at(1), 104);
        due.is("at(1) of 0", Due.having(0, "").at(1), 0);
        due.is("at(1) of 999", Due.having(999, "").at(1), 999);
    }
}
