import java.math.BigInteger;

/** Promises 25 and 26: WEATHER, A YEAR. */
public final class WeatherTest {
    private static final Due due = new Due("WeatherTest");

    public static void main(String[] args) {
        weather();
        weatherOfManyRoads();
        badWeather();
        years();
        yearStays();
        badYears();
        due.end();
    }

    private static void chance(SumsThatDiffer x, int a, int b, int tenths, int above, int below) {
        String call = "weather(" + a + ", " + b + ", " + tenths + ", ";
        due.is(call + "0)", x.weather(a, b, tenths, 0), above);
        due.is(call + "1)", x.weather(a, b, tenths, 1), below);
    }

    private static void weather() {
        SumsThatDiffer x = Due.laid("r0,0,1,20,20;r0,1,2,20,20;r0,2,0,20,20;");
        chance(x, 0, 1, 0, 0, 1);
        chance(x, 0, 1, 10, 1, 1);
        chance(x, 0, 0, 0, 1, 1);
        chance(x, 0, 3, 10, 0, 1);
        chance(x, 3, 3, 10, 1, 1);
        chance(x, 0, 1, 5, 5, 8);
        chance(x, 1, 0, 1, 109, 1000);
        x.shut(2, true);
        chance(x, 0, 1, 5, 1, 2);
        chance(x, 0, 2, 3, 9, 100);
        x.shut(1, true);
        chance(x, 0, 2, 3, 0, 1);
        x.cross(0);
        chance(x, 0, 1, 3, 3, 10);
    }

    private static void weatherOfManyRoads() {
        SumsThatDiffer x = Due.laid("n2;" + "r0,0,1,20,20;".repeat(9));
        chance(x, 0, 1, 5, 511, 512);
        chance(x, 1, 0, 1, 612579511, 1000000000);
        chance(x, 0, 1, 9, 999999999, 1000000000);
        chance(x, 0, 1, 10, 1, 1);
        SumsThatDiffer row = Due.laid("n6;r0,4,5,20,20;r0,3,4,20,20;r0,2,3,20,20;r0,1,2,20,20;r0,0,1,20,20;");
        chance(row, 0, 5, 7, 16807, 100000);
        chance(row, 5, 0, 7, 16807, 100000);
        chance(row, 1, 4, 2, 1, 125);
    }

    private static void badWeather() {
        SumsThatDiffer x = new SumsThatDiffer();
        int[][] bad = {{-1, 0, 5, 0}, {4, 0, 5, 0}, {0, -1, 5, 0}, {0, 4, 5, 0}, {0, 1, -1, 0}, {0, 1, 11, 0}, {0, 1, 5, -1}, {0, 1, 5, 2}};
        for (int[] b : bad) {
            due.is("weather(" + b[0] + ", " + b[1] + ", " + b[2] + ", " + b[3] + ")", x.weather(b[0], b[1], b[2], b[3]), -1);
        }
    }

    /** z = 0, k = 0: x is 1, DRAW 0, so road 0, by which 50 is 53. */
    private static void years() {
        SumsThatDiffer one = Due.laid("r0,0,1,23,15;");
        due.is("one crossing", one.year(0, 1, 0), 53);
        due.is("one was crossed", one.year(0, 1, 1), 1);
        due.is("two crossings", one.year(0, 2, 0), 48);
        due.is("all 60 were crossed", one.year(9999, 60, 1), 60);
        due.is("not gone", one.at(1), 50);
        due.is("no crossings so far", one.count(4), 0);
        // of nine roads from place 0 each one leads to a sum of its own, so a sum tells which was drawn
        SumsThatDiffer nine = Due.laid("n2;r0,0,1,21,20;r0,0,1,22,20;r0,0,1,23,20;r0,0,1,24,20;r0,0,1,25,20;"
                + "r0,0,1,26,20;r0,0,1,27,20;r0,0,1,28,20;r0,0,1,29,20;");
        int[] years = {0, 1, 2, 3, 10, 99, 1000, 4321, 9998, 9999};
        for (int z : years) {
            int draw = draw(z, 0);
            due.is("the first draw of year " + z, nine.year(z, 1, 0), 51 + draw % 9);
        }
        SumsThatDiffer shutOnes = Due.laid("n2;r0,0,1,21,20;r0,0,1,22,20;r0,0,1,23,20;r0,0,1,24,20;");
        shutOnes.cross(0);
        shutOnes.cross(0);
        for (int r = 0; r < 4; r++) {
            shutOnes.shut(r, true);
        }
        due.is("shut ones are drawn as well", shutOnes.year(7, 60, 1), 0);
        shutOnes.shut(2, false);
        int drawn = 0;
        for (int k = 0; k < 60; k++) {
            drawn += draw(7, k) % 4 == 2 ? 1 : 0;
        }
        due.is("each time that the open one is drawn", shutOnes.year(7, 60, 1), drawn);
    }

    private static int draw(int z, int k) {
        BigInteger x = BigInteger.valueOf(7919).multiply(BigInteger.valueOf(z))
                .add(BigInteger.valueOf(6151L * k)).add(BigInteger.ONE);
        return x.multiply(x).mod(BigInteger.valueOf(65521)).intValueExact() / 8;
    }

    private static void yearStays() {
        SumsThatDiffer x = Due.laid("r0,0,1,23,15;r0,2,3,20,24;s2,50;");
        due.is("road 0 does not end there", x.year(0, 1, 1), 0);
        due.is("the sum stays", x.year(0, 1, 0), 50);
        SumsThatDiffer y = Due.laid("r0,0,1,23,15;");
        y.shut(0, true);
        due.is("it is shut", y.year(0, 60, 1), 0);
        due.is("the sum stays where it is shut", y.year(0, 60, 0), 50);
        SumsThatDiffer none = Due.laid("n2;");
        due.is("no roads", none.year(3, 60, 1), 0);
        due.is("no roads, the sum", none.year(3, 60, 0), 50);
    }

    private static void badYears() {
        SumsThatDiffer x = new SumsThatDiffer();
        int[][] bad = {{-1, 5, 0}, {10000, 5, 0}, {0, 0, 0}, {0, 61, 0}, {0, -1, 0}, {0, 5, -1}, {0, 5, 2}};
        for (int[] b : bad) {
            due.is("year(" + b[0] + ", " + b[1] + ", " + b[2] + ")", x.year(b[0], b[1], b[2]), -1);
        }
    }
}
