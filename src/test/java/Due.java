import java.util.Set;
import java.util.TreeSet;

/** Counts the answers that are not the ones that are due, and keeps by which words of the document they are due. */
final class Due {
    private final String test;
    private final Set<String> shown = new TreeSet<>();
    private int promise;
    private String words = "";
    private int wrong;

    Due(String test) {
        this.test = test;
    }

    /** The answers that follow are due to this promise (0: to all), by these words, which must stand in the document. */
    void by(int duePromise, String dueWords) {
        promise = duePromise;
        words = dueWords;
        if (!Doc.says(dueWords)) {
            fail("the document does not say \"" + dueWords + "\"");
        }
    }

    void is(String call, long got, long want) {
        boolean refusal = want < 0 && -want <= Doc.REFUSALS.size();
        shown.add(promise + (refusal ? Doc.REFUSALS.get((int) -want - 1) : ""));
        if (got != want) {
            String by = (promise == 0 ? "" : "promise " + promise + ", ") + (words.isEmpty() ? "" : "\"" + words + "\": ");
            fail(by + call + " answered " + got + ", due is " + want);
        }
    }

    private void fail(String what) {
        wrong++;
        System.out.println(test + ": " + what);
    }

    /** Writes a text behind what is written already. */
    static void write(SumsThatDiffer x, String text) {
        for (int i = 0; i < text.length(); i++) {
            x.write(text.charAt(i));
        }
    }

    /** A new object with this text laid. */
    static SumsThatDiffer laid(String text) {
        SumsThatDiffer x = new SumsThatDiffer();
        write(x, text);
        if (x.lay() < 0) {
            throw new IllegalStateException("a test's text has a fault: " + text);
        }
        return x;
    }

    /** One is at PLACE 0 with any sum from 0 to 999; these roads are 1, 2, .., road 0 (to 1) led there and is SHUT. */
    static SumsThatDiffer having(int sum, String roads) {
        SumsThatDiffer x = laid("n6;r3,0,1,40,40;" + roads + "s0," + sum % 40 + ";");
        for (int i = 0; i < sum / 40; i++) {
            x.cross(0);
        }
        x.mend(0, 20, 20);
        if (x.at(0) != 0) {
            x.cross(0);
        }
        x.shut(0, true);
        if (x.at(0) != 0 || x.at(1) != sum) {
            throw new IllegalStateException("a test does not get to a sum of " + sum);
        }
        return x;
    }

    /** Fails, too, if one of these promises was shown no answer, or none of a refusal that it names. */
    void end(int... promises) {
        for (int p : promises) {
            if (!shown.contains(p + "")) {
                fail("no answer of promise " + p + " was looked at");
            }
            for (String refusal : Doc.refusalsOf(p)) {
                if (!shown.contains(p + refusal)) {
                    fail("promise " + p + " names " + refusal + ", but no test shows it");
                }
            }
        }
        System.out.println(wrong == 0 ? test + ": all answers are as due" : test + ": " + wrong + " answers are not as due");
        if (wrong != 0) {
            System.exit(1);
        }
    }
}
