import java.lang.reflect.Constructor;
import java.lang.reflect.Field;
import java.lang.reflect.Method;
import java.lang.reflect.Modifier;
import java.nio.file.Files;
import java.nio.file.Path;
import java.util.ArrayList;
import java.util.List;
import java.util.TreeSet;
import java.util.regex.Matcher;
import java.util.regex.Pattern;

/** The public face of the document, and what of LANGUAGE.md can be seen from outside. */
public final class FaceTest {
    private static final Due due = new Due();
    private static final String FACE =
        "egg3 of2 change3 hen3 work3 henOf2 workOf2 spend2 broken1 go1 now1 ahead1 spoils1 ripe1 lasts1 when1 kindFor2"
        + " everyFor2 fewest1 thrifty1 best0 bestWorks0 soonest1 nest1 guard0 halves0 apart0 sets1 ages2 youngest2 foxes1"
        + " odds2 seed1 feed2 wipe0 text0 hold2 as2 sheet3 write3 copy5 load1 judge1 image0 undo0 tear0 count1 status1";
    private static final String FORBIDDEN =
        "\\b(throw|throws|try|catch|finally|synchronized|assert|import|package|Exception|Error|hashCode|toString|Object"
        + "|System\\.out|var|new \\w+\\(\\) \\{)\\b|->|::|\\w+Exact\\b|@";

    public static void main(String[] args) throws Exception {
        face();
        classesInside();
        source();
        due.end("FaceTest");
    }

    private static void face() {
        Class<?> c = HourEggs.class;
        due.is("public and final", c.getModifiers(), Modifier.PUBLIC | Modifier.FINAL);
        TreeSet<String> wanted = new TreeSet<>(List.of(FACE.split(" ")));
        TreeSet<String> found = new TreeSet<>();
        for (Method m : c.getDeclaredMethods()) {
            boolean isPublic = Modifier.isPublic(m.getModifiers());
            due.is(m + " public or private", isPublic || Modifier.isPrivate(m.getModifiers()) ? 1 : 0, 1);
            if (isPublic) {
                found.add(m.getName() + m.getParameterCount());
                due.is(m + " of an object", m.getModifiers(), Modifier.PUBLIC);
                boolean isLong = m.getName().equals("odds");
                due.is(m + " type", m.getReturnType() == (isLong ? long.class : int.class) ? 1 : 0, 1);
                for (Class<?> parameter : m.getParameterTypes()) {
                    due.is(m + " of ints", parameter == int.class ? 1 : 0, 1);
                }
            } else {
                due.is(m + " bears no public name", names().contains(m.getName()) ? 1 : 0, 0);
            }
        }
        System.out.println(found.equals(wanted) ? "the face is whole" : "found " + found + ", due is " + wanted);
        due.is("the face", found.equals(wanted) ? 1 : 0, 1);
        Constructor<?>[] constructors = c.getDeclaredConstructors();
        due.is("one constructor", constructors.length, 1);
        due.is("of nothing", constructors[0].getParameterCount(), 0);
        due.is("public", constructors[0].getModifiers(), Modifier.PUBLIC);
        for (Field f : c.getDeclaredFields()) {
            due.is(f + " private", Modifier.isPrivate(f.getModifiers()) ? 1 : 0, 1);
        }
    }

    private static List<String> names() {
        List<String> names = new ArrayList<>();
        for (String name : FACE.split(" ")) {
            names.add(name.substring(0, name.length() - 1));
        }
        return names;
    }

    private static void classesInside() {
        Class<?>[] inside = HourEggs.class.getDeclaredClasses();
        due.is("at most 12 classes", inside.length + 1 <= 12 ? 1 : 0, 1);
        for (Class<?> c : inside) {
            due.is(c + " static", Modifier.isStatic(c.getModifiers()) ? 1 : 0, 1);
            due.is(c + " not public", Modifier.isPublic(c.getModifiers()) ? 1 : 0, 0);
            int fields = 0;
            for (Field f : c.getDeclaredFields()) {
                boolean isStatic = Modifier.isStatic(f.getModifiers());
                due.is(f + " final if static", isStatic && !Modifier.isFinal(f.getModifiers()) ? 1 : 0, 0);
                fields += isStatic ? 0 : 1;
            }
            due.is(c + " some twenty fields", fields <= 20 ? 1 : 0, 1);
            for (Method m : c.getDeclaredMethods()) {
                due.is(m + " bears no public name", names().contains(m.getName()) ? 1 : 0, 0);
                due.is(m + " parameters", m.getParameterCount() <= 7 ? 1 : 0, 1);
            }
        }
    }

    private static void source() throws Exception {
        String code = Files.readString(Path.of("src/main/java/HourEggs.java"));
        for (int i = 0; i < code.length(); i++) {
            due.is("sign at " + i, code.charAt(i) < 128 ? 1 : 0, 1);
        }
        String bare = code.replaceAll("(?s)/\\*.*?\\*/", "").replaceAll("//[^\n]*", "").replaceAll("\"[^\"]*\"", "\"\"");
        Matcher forbidden = Pattern.compile(FORBIDDEN).matcher(bare);
        while (forbidden.find()) {
            due.is("'" + forbidden.group() + "' in HourEggs.java", 1, 0);
        }
    }
}
