import java.lang.reflect.Constructor;
import java.lang.reflect.Field;
import java.lang.reflect.Method;
import java.lang.reflect.Modifier;
import java.util.Set;
import java.util.TreeSet;

/** The class has the document's face, and nothing else that can be seen from outside. */
public final class FaceTest extends Checks {
    private static final Set<String> FACE = Set.of(
        "public static final int RoundSearch.UNKNOWN",
        "public static final int RoundSearch.OUTSIDE",
        "public static final int RoundSearch.STATE",
        "public static final int RoundSearch.ROOM",
        "public RoundSearch()",
        "public int RoundSearch.stop(long,long,long)",
        "public void RoundSearch.way(int,int,long)",
        "public int RoundSearch.load(int,int)",
        "public int RoundSearch.limit(int)",
        "public long RoundSearch.solve(long)",
        "public int RoundSearch.at(int) throws java.lang.ArrayIndexOutOfBoundsException",
        "public boolean RoundSearch.exact()",
        "public int RoundSearch.late(int)",
        "public int RoundSearch.freeze(int)",
        "public int RoundSearch.add(int)",
        "public int RoundSearch.arc(int,int,int)",
        "public int RoundSearch.exchange(int,int)",
        "public long RoundSearch.bound()");

    public static void main(String[] args) {
        Set<String> seen = visible();
        for (String member : FACE) {
            holds("is there: " + member, seen.contains(member));
        }
        for (String member : seen) {
            holds("is of the document: " + member, FACE.contains(member));
        }
        theClassItself();
        classesInside();
        end();
    }

    // A class above it, or an interface, would bring members that are not declared here.
    private static void theClassItself() {
        int modifiers = RoundSearch.class.getModifiers();
        holds("the class is public and final", Modifier.isPublic(modifiers) && Modifier.isFinal(modifiers));
        holds("it is of no other class", RoundSearch.class.getSuperclass() == Object.class);
        due("it is of no interface", RoundSearch.class.getInterfaces().length, 0);
    }

    private static void classesInside() {
        for (Class<?> inside : RoundSearch.class.getDeclaredClasses()) {
            int modifiers = inside.getModifiers();
            fails(inside + " is seen", Modifier.isPublic(modifiers) || Modifier.isProtected(modifiers));
        }
    }

    private static Set<String> visible() {
        Set<String> seen = new TreeSet<>();
        for (Field f : RoundSearch.class.getDeclaredFields()) {
            addVisible(seen, f.getModifiers(), f.toString());
        }
        for (Constructor<?> k : RoundSearch.class.getDeclaredConstructors()) {
            addVisible(seen, k.getModifiers(), k.toString());
        }
        for (Method m : RoundSearch.class.getDeclaredMethods()) {
            addVisible(seen, m.getModifiers(), m.toString());
        }
        return seen;
    }

    private static void addVisible(Set<String> seen, int modifiers, String text) {
        if (!Modifier.isPrivate(modifiers)) {
            seen.add(text);
        }
    }
}
