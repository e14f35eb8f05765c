import java.lang.reflect.Constructor;
import java.lang.reflect.Executable;
import java.lang.reflect.Field;
import java.lang.reflect.Method;
import java.lang.reflect.Modifier;
import java.util.Arrays;
import java.util.Set;
import java.util.TreeSet;

/** The public face of the document, and nothing visible beside it. */
public final class FaceTest {
    private static final Set<String> FACE = new TreeSet<>(Arrays.asList(
        "int vertex(int,int)", "int sector(int,int)", "int wall(int,int,int,int)", "boolean drop()", "void clear()",
        "int build()", "boolean start(int,int,int,int)", "int input(int,int,int)", "boolean undo(int)",
        "int play(int)", "int step(int,int,int)", "int crossed(int)", "int stopper()", "int walker(int)",
        "int look(int)"));

    public static void main(String[] args) {
        Due due = new Due();
        due.is("NONE", -1, SectorWalk.NONE);
        due.is("class is public and final", true, Modifier.isPublic(SectorWalk.class.getModifiers())
            && Modifier.isFinal(SectorWalk.class.getModifiers()));
        methods(due);
        fields(due);
        constructors(due);
        due.end();
    }

    private static void methods(Due due) {
        Set<String> found = new TreeSet<>();
        Set<String> publicNames = new TreeSet<>();
        for (Method m : SectorWalk.class.getDeclaredMethods()) {
            if (Modifier.isPrivate(m.getModifiers()) || m.isSynthetic()) {
                continue;
            }
            due.is(m + " is public and of the object", true,
                Modifier.isPublic(m.getModifiers()) && !Modifier.isStatic(m.getModifiers()));
            found.add(m.getReturnType() + " " + m.getName() + parameters(m));
            publicNames.add(m.getName());
        }
        due.is("methods " + found, true, found.equals(FACE));
        for (Method m : SectorWalk.class.getDeclaredMethods()) {
            boolean hidden = Modifier.isPrivate(m.getModifiers());
            due.is(m + " hides no public name", false, hidden && publicNames.contains(m.getName()));
        }
    }

    private static String parameters(Executable e) {
        StringBuilder text = new StringBuilder();
        for (Class<?> type : e.getParameterTypes()) {
            text.append(text.length() == 0 ? "" : ",").append(type);
        }
        return "(" + text + ")";
    }

    private static void fields(Due due) {
        for (Field f : SectorWalk.class.getDeclaredFields()) {
            boolean isNone = f.getName().equals("NONE");
            due.is(f + " is private but NONE", isNone, !Modifier.isPrivate(f.getModifiers()));
            if (Modifier.isStatic(f.getModifiers())) {
                due.is(f + " is final", true, Modifier.isFinal(f.getModifiers()));
            }
        }
    }

    private static void constructors(Due due) {
        Constructor<?>[] all = SectorWalk.class.getDeclaredConstructors();
        due.is("constructors", 1, all.length);
        due.is("constructor is public", true, Modifier.isPublic(all[0].getModifiers()));
        due.is("constructor takes nothing", 0, all[0].getParameterCount());
    }
}
