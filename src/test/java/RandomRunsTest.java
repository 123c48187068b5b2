/** Long runs of calls, the same each time, on the program and on the Model: every answer must be alike. */
public final class RandomRunsTest {
    private static final int RUNS = 1000;
    private static final int MOST_CALLS = 512;
    private static final int CALLS_OF_STATE = 103;

    private final Due due = new Due("RandomRunsTest");
    private long seed;
    private SumsThatDiffer x;
    private Model m;
    private int run;
    private boolean steep;
    private int calls;

    public static void main(String[] args) {
        RandomRunsTest test = new RandomRunsTest();
        for (int run = 0; run < RUNS; run++) {
            test.goThrough(run);
        }
        test.due.end();
    }

    private int below(int n) {
        seed = seed * 6364136223846793005L + 1442695040888963407L;
        return (int) ((seed >>> 33) % n);
    }

    /** Mostly a number from 0 to most, at times one beside. */
    private int about(int most) {
        int die = below(12);
        if (die == 0) {
            return -1 - below(5);
        }
        return die == 1 ? most + 1 + below(3) : below(most + 1);
    }

    /** What is answered behind 512 calls is free. */
    private void alike(String call, long got, long want) {
        calls++;
        if (calls <= MOST_CALLS) {
            due.is("run " + run + ": " + call, got, want);
        }
    }

    private void goThrough(int number) {
        run = number;
        seed = 77777L + number * 1000003L;
        calls = 0;
        x = new SumsThatDiffer();
        m = new Model();
        steep = number % 4 == 1;
        if (number % 5 != 0) {
            layAnother();
        }
        for (int climbs = 0; steep && climbs < 30; climbs++) {
            alike("cross", x.cross(0), m.cross(0));
        }
        while (calls < MOST_CALLS - CALLS_OF_STATE) {
            one();
        }
        state();
    }

    private void writeAll(String text) {
        for (int i = 0; i < text.length(); i++) {
            alike("write", x.write(text.charAt(i)), m.write(text.charAt(i)));
        }
    }

    private void layAnother() {
        alike("wipe", x.wipe(), m.wipe());
        writeAll(text());
        alike("fault", x.fault(), m.fault());
        alike("lay", x.lay(), m.lay());
    }

    private String text() {
        StringBuilder t = new StringBuilder();
        int places = 2 + below(5);
        if (places != 4 || below(2) == 0) {
            t.append('n').append(places).append(';');
        }
        int roads = below(10);
        int[] heights = new int[places];
        for (int p = 0; p < places; p++) {
            heights[p] = below(19);
        }
        boolean steady = below(3) == 0;
        for (int r = 0; r < roads; r++) {
            int a = below(places);
            int b = (a + 1 + below(places - 1)) % places;
            int kind = below(4);
            int f = steady && kind != 3 ? 20 + heights[b] - heights[a] : below(41);
            int g = below(4) == 0 && !steady ? below(41) : 40 - f;
            if (steep) {
                kind = r == 0 ? 3 : kind;
                f = r == 0 ? 36 + below(5) : 12 + below(29);
                g = r == 0 ? 36 + below(5) : 12 + below(29);
            }
            t.append('r').append(kind).append(',').append(a).append(',').append(b).append(',').append(f).append(',').append(g).append(';');
        }
        if (steep && roads > 0) {
            t.append('s').append(t.charAt(t.indexOf("r") + 3)).append(",99;");
        } else if (below(4) != 0) {
            t.append('s').append(below(places)).append(',').append(below(100)).append(';');
        }
        for (int j = below(6); j > 0 && roads > 0; j--) {
            t.append('j').append(below(roads)).append(';');
        }
        if (below(6) == 0 && t.length() > 0) {
            t.setCharAt(below(t.length()), "nrsj0123456789,; x".charAt(below(18)));
        }
        if (below(12) == 0 && t.length() > 0) {
            t.setLength(t.length() - 1);
        }
        return t.toString();
    }

    private void one() {
        switch (below(30)) {
            case 0: case 1: case 2: case 3: case 4: case 5: {
                int r = about(8);
                alike("cross", x.cross(r), m.cross(r));
                break;
            }
            case 6: case 7: {
                int r = about(8), f = about(40), g = below(2) == 0 ? 40 - f : about(40);
                alike("mend", x.mend(r, f, g), m.mend(r, f, g));
                break;
            }
            case 8: case 9: case 10: {
                int r = about(8);
                boolean s = below(2) == 0;
                alike("shut", x.shut(r, s), m.shut(r, s));
                break;
            }
            case 11: case 12: alike("undo", x.undo(), m.undo()); break;
            case 13: {
                for (int k = -1; k <= 10; k++) {
                    alike("journey " + k, x.journey(k, k & 1), m.journey(k, k & 1));
                    int what = about(1);
                    alike("journey", x.journey(k, what), m.journey(k, what));
                }
                break;
            }
            case 14: {
                for (int n = -1; n <= 6; n++) {
                    alike("most " + n, x.most(n, n & 1), m.most(n, n & 1));
                }
                int what = about(1);
                alike("most 5", x.most(5, what), m.most(5, what));
                break;
            }
            case 15: {
                for (int k = -1; k <= 6; k++) {
                    alike("round " + k, x.round(k), m.round(k));
                }
                break;
            }
            case 16: alike("agree", x.agree(), m.agree()); break;
            case 17: {
                int p = about(5);
                alike("height", x.height(p), m.height(p));
                break;
            }
            case 18: {
                int what = about(1);
                alike("ring", x.ring(what), m.ring(what));
                alike("fewest", x.fewest(), m.fewest());
                break;
            }
            case 19: case 20: {
                int a = about(5), b = about(5);
                alike("third", x.third(a, b), m.third(a, b));
                break;
            }
            case 21: case 22: case 23: tellOne(); break;
            case 24: {
                alike("wrong", x.wrong(), m.wrong());
                int what = about(1);
                alike("walk", x.walk(what), m.walk(what));
                break;
            }
            case 25: {
                int what = about(1);
                alike("byTurns", x.byTurns(what), m.byTurns(what));
                break;
            }
            case 26: {
                int a = about(5), b = about(5), o = about(10), part = about(1);
                alike("weather", x.weather(a, b, o, part), m.weather(a, b, o, part));
                break;
            }
            case 27: {
                int z = about(9999), n = about(60), what = about(1);
                alike("year", x.year(z, n, what), m.year(z, n, what));
                break;
            }
            case 28: {
                if (below(2) == 0) {
                    alike("keep", x.keep(), m.keep());
                } else {
                    alike("back", x.back(), m.back());
                }
                break;
            }
            default:
                seldom();
                break;
        }
    }

    private void seldom() {
        switch (below(8)) {
            case 0: alike("forget", x.forget(), m.forget()); break;
            case 1: layAnother(); break;
            case 2: {
                int letter = below(140) - 5;
                alike("write", x.write(letter), m.write(letter));
                alike("fault", x.fault(), m.fault());
                break;
            }
            default: state(); break;
        }
    }

    /** Told so that at times all of it can be so: by how a road is now, or was before a mending. */
    private void tellOne() {
        int p = about(5), r = about(8), q = below(2) == 0 ? -4 : about(8);
        if (below(8) == 0) {
            q = r;
        }
        int s = below(6) == 0 ? about(999) : below(120);
        int v = below(5) == 0 ? about(999) : Math.max(0, s + below(13) - 6);
        if (below(2) == 0 && m.road(r, 5) != -1 && (m.road(r, 1) == p || m.road(r, 2) == p) && q == -4) {
            int figure = m.road(r, m.road(r, 1) == p ? 3 : 4);
            v = Math.max(0, Math.min(999, s + (figure - 20) * (m.road(r, 0) == 3 ? 2 : 1)));
        }
        alike("tell", x.tell(p, s, r, q, v), m.tell(p, s, r, q, v));
    }

    private void state() {
        for (int what = -1; what <= 9; what++) {
            alike("count " + what, x.count(what), m.count(what));
        }
        for (int what = -1; what <= 2; what++) {
            alike("at " + what, x.at(what), m.at(what));
        }
        for (int r = -1; r <= 9; r++) {
            for (int what = -1; what <= 6; what++) {
                alike("road " + r + " " + what, x.road(r, what), m.road(r, what));
            }
        }
    }
}
