import java.io.IOException;
import java.lang.reflect.Constructor;
import java.lang.reflect.Field;
import java.lang.reflect.Method;
import java.lang.reflect.Modifier;
import java.nio.file.Files;
import java.nio.file.Path;
import java.util.Arrays;
import java.util.TreeSet;

/** The face is the document's and nothing beside it; the source keeps to LANGUAGE.md where a test can see it. */
public final class FaceTest {
    private static final Due due = new Due("FaceTest");
    private static final String[] FACE = {
        "agree()", "at(int)", "back()", "byTurns(int)", "count(int)", "cross(int)", "fault()", "fewest()", "forget()",
        "height(int)", "journey(int,int)", "keep()", "lay()", "mend(int,int,int)", "most(int,int)", "ring(int)",
        "road(int,int)", "round(int)", "shut(int,boolean)", "tell(int,int,int,int,int)", "third(int,int)", "undo()",
        "walk(int)", "weather(int,int,int,int)", "wipe()", "write(int)", "wrong()", "year(int,int,int)"
    };
    private static final String[] FORBIDDEN = {
        "\\bcatch\\b", "\\bthrow\\b", "\\bfinally\\b", "\\bassert\\b", "\\bsynchronized\\b", "->", "::", "\\bnull\\b",
        "\\bRandom\\b", "\\bSystem\\.(?!arraycopy)", "\\bMath\\.\\w*Exact\\b", "\\bimport (?!java\\.util\\.Arrays;)", "\\bpackage\\b",
        "\\bObject\\b", "\\bThread\\b", "\\bdouble\\b", "\\bfloat\\b", "\\bwhile\\b"
    };

    public static void main(String[] args) throws IOException {
        face();
        constants();
        names();
        source();
        due.end();
    }

    private static void face() {
        Class<?> c = SumsThatDiffer.class;
        due.is("public and final", c.getModifiers() & (Modifier.PUBLIC | Modifier.FINAL), Modifier.PUBLIC | Modifier.FINAL);
        TreeSet<String> seen = new TreeSet<>();
        for (Method m : c.getDeclaredMethods()) {
            if (!Modifier.isPrivate(m.getModifiers()) && !m.isSynthetic()) {
                String name = m.toString();
                seen.add(name.substring(name.indexOf("SumsThatDiffer.") + 15));
                due.is(m + " is public, answers an int", Modifier.isPublic(m.getModifiers()) && m.getReturnType() == int.class ? 1 : 0, 1);
            }
        }
        TreeSet<String> wanted = new TreeSet<>(Arrays.asList(FACE));
        if (!seen.equals(wanted)) {
            System.out.println("seen " + seen);
        }
        due.is("the methods are the document's", seen.equals(wanted) ? 1 : 0, 1);
        Constructor<?>[] made = c.getDeclaredConstructors();
        due.is("one constructor", made.length, 1);
        due.is("it is public, without parameters", Modifier.isPublic(made[0].getModifiers()) ? made[0].getParameterCount() : 1, 0);
    }

    private static void constants() {
        int others = 0;
        for (Field f : SumsThatDiffer.class.getDeclaredFields()) {
            boolean told = Arrays.asList("BAD", "NO", "FULL", "NONE").contains(f.getName());
            others += told || Modifier.isPrivate(f.getModifiers()) ? 0 : 1;
        }
        due.is("no other field is seen", others, 0);
        due.is("BAD", SumsThatDiffer.BAD, -1);
        due.is("NO", SumsThatDiffer.NO, -2);
        due.is("FULL", SumsThatDiffer.FULL, -3);
        due.is("NONE", SumsThatDiffer.NONE, -4);
    }

    /** LANGUAGE.md, rules 1, 5, 6 and 11: names, static state, what an object may not have, sizes. */
    private static void names() {
        TreeSet<String> face = new TreeSet<>();
        for (String m : FACE) {
            face.add(m.substring(0, m.indexOf('(')));
        }
        Class<?>[] inner = SumsThatDiffer.class.getDeclaredClasses();
        due.is("at most twelve classes", inner.length + 1 <= 12 ? 1 : 0, 1);
        for (Class<?> c : inner) {
            due.is(c + " is static, private", c.getModifiers() & (Modifier.STATIC | Modifier.PRIVATE), Modifier.STATIC | Modifier.PRIVATE);
            for (Method m : c.getDeclaredMethods()) {
                due.is(m + " bears a name of the face", face.contains(m.getName()) ? 1 : 0, 0);
                due.is(m + " has at most seven parameters", m.getParameterCount() <= 7 ? 1 : 0, 1);
                due.is(m + " is none of Object's", Arrays.asList("equals", "hashCode", "toString").contains(m.getName()) ? 1 : 0, 0);
            }
            int fields = 0;
            for (Field f : c.getDeclaredFields()) {
                fields += Modifier.isStatic(f.getModifiers()) ? 0 : 1;
                due.is(f + ", if static, is final", f.getModifiers() & (Modifier.STATIC | Modifier.FINAL),
                        Modifier.isStatic(f.getModifiers()) ? Modifier.STATIC | Modifier.FINAL : f.getModifiers() & Modifier.FINAL);
            }
            due.is(c + " has at most twenty fields", fields <= 20 ? 1 : 0, 1);
        }
    }

    private static void source() throws IOException {
        String source = Files.readString(Path.of("src/main/java/SumsThatDiffer.java"));
        String code = source.replaceAll("(?s)/\\*.*?\\*/", "").replaceAll("//[^\n]*", "").replaceAll("\"[^\"\n]*\"", "\"\"");
        for (String word : FORBIDDEN) {
            due.is(word + " in the source", java.util.regex.Pattern.compile(word).matcher(code).find() ? 1 : 0, 0);
        }
    }
}
