import java.math.BigInteger;

/** Promises 25 and 26: WEATHER, A YEAR. */
public final class WeatherTest {
    private static final Due due = new Due("WeatherTest");

    public static void main(String[] args) {
        noneToTenOfTen();
        lowestTerms();
        whatIsShutIsClosed();
        fromAPlaceToItself();
        manyRoads();
        badWeather();

        draws();
        drawsModuloTheRoads();
        drawsThatWrapAround();
        oneStays();
        sumsOfAYear();
        oneToSixtyCrossings();
        badYears();
        due.end(25, 26);
    }

    // ---- promise 25

    private static void chance(SumsThatDiffer x, int a, int b, int tenths, int above, int below) {
        String call = "weather(" + a + ", " + b + ", " + tenths + ", ";
        due.is(call + "0)", x.weather(a, b, tenths, 0), above);
        due.is(call + "1)", x.weather(a, b, tenths, 1), below);
    }

    private static void noneToTenOfTen() {
        due.by(25, "each ROAD that is not SHUT is open by x (0 to 10) of ten");
        SumsThatDiffer x = Due.laid("r0,0,1,20,20;r0,1,2,20,20;r0,2,0,20,20;");
        chance(x, 0, 1, 0, 0, 1);
        chance(x, 0, 1, 1, 109, 1000);
        chance(x, 0, 1, 5, 5, 8);
        chance(x, 1, 0, 9, 981, 1000);
        chance(x, 0, 1, 10, 1, 1);
        SumsThatDiffer one = Due.laid("r0,0,1,20,20;");
        int[] above = {0, 1, 1, 3, 2, 1, 3, 7, 4, 9, 1};
        int[] below = {1, 10, 5, 10, 5, 2, 5, 10, 5, 10, 1};
        for (int tenths = 0; tenths <= 10; tenths++) {
            chance(one, 0, 1, tenths, above[tenths], below[tenths]);
            chance(one, 1, 0, tenths, above[tenths], below[tenths]);
            chance(one, 0, 2, tenths, 0, 1);
        }
    }

    private static void lowestTerms() {
        due.by(25, "the chance that b can be come to from a, in lowest terms");
        SumsThatDiffer x = Due.laid("r0,0,1,20,20;r0,1,2,20,20;");
        chance(x, 0, 2, 2, 1, 25);
        chance(x, 0, 2, 3, 9, 100);
        chance(x, 0, 2, 10, 1, 1);
        chance(x, 0, 2, 0, 0, 1);
        chance(x, 0, 3, 5, 0, 1);
        SumsThatDiffer both = Due.laid("r0,0,1,20,20;r0,0,1,20,20;");
        chance(both, 0, 1, 5, 3, 4);
        chance(both, 0, 1, 6, 21, 25);
    }

    private static void whatIsShutIsClosed() {
        due.by(25, "each ROAD that is not SHUT");
        SumsThatDiffer x = Due.laid("r0,0,1,20,20;r0,1,2,20,20;r0,2,0,20,20;");
        x.shut(2, true);
        chance(x, 0, 1, 5, 1, 2);
        chance(x, 0, 2, 3, 9, 100);
        x.shut(1, true);
        chance(x, 0, 2, 3, 0, 1);
        chance(x, 0, 2, 10, 0, 1);
        x.shut(0, true);
        chance(x, 0, 1, 10, 0, 1);
        chance(x, 0, 0, 10, 1, 1);
        x.shut(0, false);
        x.cross(0);
        chance(x, 0, 1, 3, 3, 10);
    }

    private static void fromAPlaceToItself() {
        due.by(25, "b can be come to from a");
        SumsThatDiffer x = Due.laid("n5;r0,0,1,20,20;");
        chance(x, 0, 0, 0, 1, 1);
        chance(x, 0, 0, 5, 1, 1);
        chance(x, 4, 4, 0, 1, 1);
        chance(x, 4, 4, 10, 1, 1);
        chance(x, 0, 4, 10, 0, 1);
        chance(Due.laid("n2;"), 1, 1, 7, 1, 1);
        chance(Due.laid("n2;"), 0, 1, 10, 0, 1);
    }

    private static void manyRoads() {
        due.by(25, "9 at most, 0, 1, ..");
        SumsThatDiffer x = Due.laid("n2;" + "r0,0,1,20,20;".repeat(9));
        chance(x, 0, 1, 5, 511, 512);
        chance(x, 1, 0, 1, 612579511, 1000000000);
        chance(x, 0, 1, 9, 999999999, 1000000000);
        chance(x, 0, 1, 10, 1, 1);
        chance(x, 0, 1, 0, 0, 1);
        // told so that a pass over them in their order goes one PLACE on alone
        SumsThatDiffer row = Due.laid("n6;r0,4,5,20,20;r0,3,4,20,20;r0,2,3,20,20;r0,1,2,20,20;r0,0,1,20,20;");
        chance(row, 0, 5, 7, 16807, 100000);
        chance(row, 5, 0, 7, 16807, 100000);
        chance(row, 1, 4, 2, 1, 125);
        chance(row, 0, 5, 10, 1, 1);
    }

    private static void badWeather() {
        due.by(25, "BAD: a number is none that is told (PLACES, ROADS: such as there are)");
        SumsThatDiffer x = new SumsThatDiffer();
        int[][] bad = {{-1, 0, 5, 0}, {4, 0, 5, 0}, {0, -1, 5, 0}, {0, 4, 5, 0}, {4, 4, 5, 0}, {-1, -1, 5, 1}, {0, 1, -1, 0},
            {0, 1, 11, 0}, {0, 0, 11, 1}, {0, 1, 5, -1}, {0, 1, 5, 2}, {32, 0, 5, 0}, {0, 32, 5, 0},
            {Integer.MIN_VALUE, 0, 5, 0}, {0, Integer.MAX_VALUE, 5, 0}, {0, 1, Integer.MIN_VALUE, 0}, {0, 1, 5, Integer.MAX_VALUE}};
        for (int[] b : bad) {
            due.is("weather(" + b[0] + ", " + b[1] + ", " + b[2] + ", " + b[3] + ")", x.weather(b[0], b[1], b[2], b[3]), -1);
        }
    }

    // ---- promise 26

    private static int draw(int z, int k) {
        BigInteger x = BigInteger.valueOf(7919).multiply(BigInteger.valueOf(z))
                .add(BigInteger.valueOf(6151L * k)).add(BigInteger.ONE);
        return x.multiply(x).mod(BigInteger.valueOf(65521)).intValueExact() / 8;
    }

    private static final int[] YEARS = {0, 1, 2, 3, 8, 10, 99, 1000, 4321, 5000, 9998, 9999};

    private static void draws() {
        due.by(26, "DRAW being ((x times x) modulo 65521) by 8, cut, x 7919 z, 6151 k and 1 together");
        // of nine roads each one leads to a sum of its own there, and back the sum stays: so a sum tells which was drawn
        StringBuilder nine = new StringBuilder("n2;");
        for (int r = 0; r < 9; r++) {
            nine.append("r0,0,1,").append(21 + r).append(",20;");
        }
        SumsThatDiffer x = Due.laid(nine.toString());
        for (int z : YEARS) {
            int sum = 50;
            for (int k = 0; k < 30; k++) {
                sum += k % 2 == 0 ? 1 + draw(z, k) % 9 : 0;
                due.is("year(" + z + ", " + (k + 1) + ", 0)", x.year(z, k + 1, 0), sum);
            }
        }
        due.is("count(4), nothing was crossed", x.count(4), 0);
        due.is("at(1), nothing was crossed", x.at(1), 50);
    }

    private static void drawsModuloTheRoads() {
        due.by(26, "ROAD DRAW modulo as many as there are, if it ends where one is and is not SHUT (else one stays)");
        for (int roads = 1; roads <= 9; roads++) {
            SumsThatDiffer x = Due.laid("r0,0,1,21,21;".repeat(roads));
            for (int r = 0; r < roads - 1; r++) {
                x.shut(r, true);
            }
            for (int z : YEARS) {
                int drawn = 0;
                for (int k = 0; k < 60; k++) {
                    drawn += draw(z, k) % roads == roads - 1 ? 1 : 0;
                }
                due.is("year(" + z + ", 60, 1), the last of " + roads + " is open", x.year(z, 60, 1), drawn);
                due.is("year(" + z + ", 60, 0), the last of " + roads + " is open", x.year(z, 60, 0), 50 + drawn);
            }
        }
    }

    private static void drawsThatWrapAround() {
        due.by(26, "((x times x) modulo 65521)");
        // the greatest x, 7919 times 9999, 6151 times 59 and 1, is 79544991: its square is far above 32 bits
        due.is("the greatest x", 7919L * 9999 + 6151L * 59 + 1, 79544991);
        SumsThatDiffer x = Due.laid("r0,0,1,21,21;r0,0,1,22,22;r0,0,1,23,23;r0,0,1,24,24;r0,0,1,25,25;");
        int sum = 50;
        for (int k = 0; k < 60; k++) {
            sum += 1 + draw(9999, k) % 5;
        }
        due.is("year(9999, 60, 0)", x.year(9999, 60, 0), sum);
        due.is("year(9999, 60, 1)", x.year(9999, 60, 1), 60);
    }

    private static void oneStays() {
        due.by(26, "(else one stays)");
        // z 0, k 0: x is 1, DRAW 0, so it is ROAD 0
        SumsThatDiffer x = Due.laid("r0,0,1,23,15;r0,2,3,20,24;s2,50;");
        due.is("year(0, 1, 1), road 0 does not end there", x.year(0, 1, 1), 0);
        due.is("year(0, 1, 0), the sum stays", x.year(0, 1, 0), 50);
        SumsThatDiffer y = Due.laid("r0,0,1,23,15;");
        due.is("year(0, 1, 1)", y.year(0, 1, 1), 1);
        due.is("year(0, 1, 0)", y.year(0, 1, 0), 53);
        y.shut(0, true);
        due.is("year(0, 60, 1), it is SHUT", y.year(0, 60, 1), 0);
        due.is("year(0, 60, 0), it is SHUT", y.year(0, 60, 0), 50);
        SumsThatDiffer none = Due.laid("n2;");
        due.is("year(3, 60, 1), no roads", none.year(3, 60, 1), 0);
        due.is("year(3, 60, 0), no roads", none.year(3, 60, 0), 50);
    }

    private static void sumsOfAYear() {
        due.by(26, "the sum then; how many were crossed");
        SumsThatDiffer low = Due.laid("r0,0,1,0,25;s0,3;");
        due.is("year(5, 1, 0), cut at 0", low.year(5, 1, 0), 0);
        due.is("year(5, 60, 0), cut at 0 each time", low.year(5, 60, 0), 5);
        SumsThatDiffer high = Due.having(990, "r0,0,1,40,20;");
        high.mend(0, 40, 40);
        high.shut(0, false);
        due.is("year(5, 60, 0), cut at 999", high.year(5, 60, 0), 999);
        SumsThatDiffer kinds = Due.laid("r2,0,1,25,15;");
        due.is("year(5, 49, 0), by tolls", kinds.year(5, 49, 0), 50 - 48 + 4);
        due.is("year(5, 59, 0), by tolls, cut at 0", kinds.year(5, 59, 0), 4);
        kinds.cross(0);
        due.is("year(5, 1, 0), from where one is now", kinds.year(5, 1, 0), 48);
    }

    private static void oneToSixtyCrossings() {
        due.by(26, "A YEAR by z (0 to 9999) of n (1 to 60) crossings from now on");
        SumsThatDiffer x = Due.laid("r0,0,1,21,21;");
        for (int n = 1; n <= 60; n++) {
            due.is("year(0, " + n + ", 0)", x.year(0, n, 0), 50 + n);
            due.is("year(9999, " + n + ", 1)", x.year(9999, n, 1), n);
        }
    }

    private static void badYears() {
        due.by(26, "BAD: a number is none that is told");
        SumsThatDiffer x = new SumsThatDiffer();
        int[][] bad = {{-1, 5, 0}, {10000, 5, 0}, {0, 0, 0}, {0, 61, 0}, {0, -1, 0}, {0, 5, -1}, {0, 5, 2}, {10000, 61, 2},
            {Integer.MIN_VALUE, 5, 0}, {Integer.MAX_VALUE, 5, 0}, {0, Integer.MIN_VALUE, 0}, {0, Integer.MAX_VALUE, 1},
            {0, 5, Integer.MIN_VALUE}, {0, 5, Integer.MAX_VALUE}};
        for (int[] b : bad) {
            due.is("year(" + b[0] + ", " + b[1] + ", " + b[2] + ")", x.year(b[0], b[1], b[2]), -1);
        }
        SumsThatDiffer none = Due.laid("n2;");
        due.is("year(0, 61, 0), no roads", none.year(0, 61, 0), -1);
    }
}
