import java.lang.reflect.Constructor;
import java.lang.reflect.Field;
import java.lang.reflect.Method;
import java.lang.reflect.Modifier;
import java.nio.charset.StandardCharsets;
import java.nio.file.Files;
import java.nio.file.Path;
import java.util.Arrays;
import java.util.HashSet;
import java.util.Set;
import java.util.TreeSet;

/** The class has the face of the document and nothing beside it, and keeps to what of the language rules shows. */
public final class FaceTest {
    private static final String[] FACE = {
        "append(int) IllegalArgumentException IllegalStateException",
        "clearText()",
        "errorPosition()",
        "load() IllegalStateException",
        "about(int) IllegalArgumentException",
        "lightOf(int,int) IndexOutOfBoundsException IllegalArgumentException",
        "boatOf(int,int) IndexOutOfBoundsException IllegalArgumentException",
        "brightness(int,int) IndexOutOfBoundsException",
        "bestAt(int,int) IndexOutOfBoundsException IllegalArgumentException",
        "setting(int) IllegalArgumentException",
        "light(int,int,int,int,int,int)"
                + " IndexOutOfBoundsException IllegalArgumentException IllegalStateException",
        "boat(int,int) IndexOutOfBoundsException IllegalArgumentException IllegalStateException",
        "steer(int,int) IndexOutOfBoundsException IllegalArgumentException",
        "talk(int,int) IndexOutOfBoundsException IllegalArgumentException IllegalStateException",
        "lean(int,int) IndexOutOfBoundsException IllegalArgumentException",
        "dim(int,int) IndexOutOfBoundsException IllegalArgumentException",
        "set(int,int) IllegalArgumentException",
        "ticks(int) IllegalArgumentException",
        "undo() IllegalStateException",
        "handedIn(int,int) IndexOutOfBoundsException IllegalArgumentException",
        "ifMargin(int,int,int) IllegalArgumentException",
        "bestMargin(int) IllegalArgumentException",
        "dark()",
        "border(int) IllegalArgumentException",
        "room()",
        "runScript(int,long) IllegalArgumentException",
        "simulate(long,int) IllegalArgumentException",
        "save(int) IndexOutOfBoundsException",
        "restore(int) IndexOutOfBoundsException IllegalStateException",
    };

    private static final Check CHECK = new Check("FaceTest");

    public static void main(String[] args) throws Exception {
        members();
        staticFields();
        source();
        CHECK.end();
    }

    private static void members() {
        Class<LanternBoats> face = LanternBoats.class;
        CHECK.holds("the class is public and final",
                Modifier.isPublic(face.getModifiers()) && Modifier.isFinal(face.getModifiers()));
        CHECK.due("NONE", -1, LanternBoats.NONE);
        Constructor<?>[] constructors = face.getDeclaredConstructors();
        CHECK.holds("one public constructor without parameters", constructors.length == 1
                && Modifier.isPublic(constructors[0].getModifiers()) && constructors[0].getParameterCount() == 0);
        Set<String> open = new TreeSet<>();
        Set<String> closed = new HashSet<>();
        Set<String> publicNames = new HashSet<>();
        for (Method m : face.getDeclaredMethods()) {
            if (Modifier.isPrivate(m.getModifiers()) || m.isSynthetic()) {
                closed.add(m.getName());
            } else {
                publicNames.add(m.getName());
                CHECK.holds(m.getName() + " is public, of the object and answers int", m.getReturnType() == int.class
                        && Modifier.isPublic(m.getModifiers()) && !Modifier.isStatic(m.getModifiers()));
                open.add(told(m));
            }
        }
        CHECK.holds("the methods are those of the document: " + open,
                open.equals(new TreeSet<>(Arrays.asList(FACE))));
        closed.retainAll(publicNames);
        CHECK.holds("no private method bears a public one's name: " + closed, closed.isEmpty());
        for (Field f : face.getDeclaredFields()) {
            CHECK.holds("the field " + f.getName() + " is private",
                    f.getName().equals("NONE") || Modifier.isPrivate(f.getModifiers()));
        }
    }

    private static String told(Method m) {
        StringBuilder told = new StringBuilder(m.getName()).append('(');
        for (Class<?> c : m.getParameterTypes()) {
            told.append(told.charAt(told.length() - 1) == '(' ? "" : ",").append(c.getName());
        }
        told.append(')');
        for (Class<?> c : m.getExceptionTypes()) {
            told.append(' ').append(c.getSimpleName());
        }
        return told.toString();
    }

    private static void staticFields() {
        Set<Class<?>> allowed = Set.of(int.class, long.class, boolean.class, char.class, String.class,
                int[].class, long[].class, char[].class, byte[].class);
        Set<Class<?>> classes = new HashSet<>(Arrays.asList(LanternBoats.class.getDeclaredClasses()));
        classes.add(LanternBoats.class);
        for (Class<?> c : classes) {
            for (Field f : c.getDeclaredFields()) {
                if (Modifier.isStatic(f.getModifiers()) && !f.isSynthetic()) {
                    CHECK.holds("the static " + f.getName() + " is a constant",
                            Modifier.isFinal(f.getModifiers()) && allowed.contains(f.getType()));
                }
            }
        }
    }

    /** What the rules forbid and a search of the source can find. */
    private static void source() throws Exception {
        String source = Files.readString(Path.of("src/main/java/LanternBoats.java"), StandardCharsets.UTF_8);
        String[] forbidden = {"package ", "import ", "catch", "finally", "synchronized", "assert", "->", "::",
            "instanceof", "System.", "Thread", "float", "double"};
        for (String word : forbidden) {
            CHECK.holds("the source is without \"" + word + "\"", !source.contains(word));
        }
    }
}
