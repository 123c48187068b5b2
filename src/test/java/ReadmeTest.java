import java.io.IOException;
import java.lang.reflect.Method;
import java.lang.reflect.Modifier;
import java.nio.file.Files;
import java.nio.file.Path;
import java.util.regex.Pattern;

/** What README.md shows of the use of the class is what comes of it, and it names every call and every test. */
public final class ReadmeTest {
    private static final Due due = new Due("ReadmeTest");

    public static void main(String[] args) throws IOException {
        String readme = Files.readString(Path.of("README.md"));
        example(readme);
        for (Method m : SumsThatDiffer.class.getDeclaredMethods()) {
            if (Modifier.isPublic(m.getModifiers())) {
                due.is("the README names " + m.getName(), readme.contains("`" + m.getName() + "`") ? 1 : 0, 1);
            }
        }
        for (String file : Path.of("src/test/java").toFile().list()) {
            String name = file.replace(".java", "");
            due.is("the README names " + name, !name.endsWith("Test") || readme.contains("`" + name + "`") ? 1 : 0, 1);
        }
        due.end();
    }

    private static void example(String readme) {
        SumsThatDiffer county = Due.laid("n3;r0,0,1,30,10;r2,1,2,22,18;s0,50;j0;j1;");
        due.is("the README shows this text", readme.contains("\"n3;r0,0,1,30,10;r2,1,2,22,18;s0,50;j0;j1;\"") ? 1 : 0, 1);
        shown(readme, "fault()", county.fault());
        shown(readme, "lay()", county.lay());
        shown(readme, "cross(0)", county.cross(0));
        shown(readme, "journey(1, 0)", county.journey(1, 0));
        shown(readme, "journey(2, 0)", county.journey(2, 0));
        shown(readme, "undo()", county.undo());
        shown(readme, "journey(2, 1)", county.journey(2, 1));
        shown(readme, "height(2)", county.height(2));
        shown(readme, "cross(7)", county.cross(7));
    }

    private static void shown(String readme, String call, int answer) {
        Pattern line = Pattern.compile("county\\." + Pattern.quote(call) + "; *// " + answer + "\\b");
        due.is("the README shows " + call + " with " + answer, line.matcher(readme).find() ? 1 : 0, 1);
    }
}
