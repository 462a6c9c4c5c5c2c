import java.lang.reflect.Constructor;
import java.lang.reflect.Field;
import java.lang.reflect.Method;
import java.lang.reflect.Modifier;
import java.util.ArrayList;
import java.util.Collections;
import java.util.List;
import java.util.TreeSet;

/** The public face, member by member, with the throws clauses in their order. */
public final class FaceTest {

    private static final String[] FACE = {
        "StreetEditions()",
        "int NONE",
        "int add(int) IndexOutOfBoundsException IllegalStateException",
        "int crossOut(int) IndexOutOfBoundsException IllegalStateException",
        "int publish() IllegalStateException",
        "int renumber(int) IllegalArgumentException",
        "int setKeep(int) IllegalArgumentException",
        "int edition()",
        "int draft()",
        "int published()",
        "int where(int) IndexOutOfBoundsException",
        "int pending()",
        "int kept()",
        "int from(int) IndexOutOfBoundsException",
        "int cost(int) IndexOutOfBoundsException",
        "int compare(int,int) IllegalArgumentException",
        "int refresh(int) IndexOutOfBoundsException IllegalStateException",
        "int refreshAll()",
        "int sleep(int) IndexOutOfBoundsException IllegalStateException",
        "int wake(int) IndexOutOfBoundsException IllegalStateException",
        "int throwAway(int) IndexOutOfBoundsException",
        "int editionOf(int) IndexOutOfBoundsException",
        "int streets(int) IndexOutOfBoundsException",
        "boolean has(int,int) IndexOutOfBoundsException",
        "boolean isRight(int) IndexOutOfBoundsException",
        "int attention(int) IndexOutOfBoundsException",
        "int costs(int) IndexOutOfBoundsException",
        "int answer(int) IndexOutOfBoundsException",
        "int costToCome(int) IndexOutOfBoundsException",
        "int wrong(int) IndexOutOfBoundsException",
        "double savedShare()",
        "int append(int) IllegalArgumentException IllegalStateException",
        "int clearText()",
        "int firstError()",
        "int run() IllegalArgumentException",
        "int undo() IllegalStateException",
        "int savedStates()",
        "long digest()",
    };

    public static void main(String[] args) {
        int type = StreetEditions.class.getModifiers();
        Due.is("public final class", Modifier.isPublic(type) && Modifier.isFinal(type), true);
        Due.is("NONE", StreetEditions.NONE, -1);
        List<String> due = new ArrayList<>();
        Collections.addAll(due, FACE);
        Due.is("the members that are not private", new TreeSet<>(members()), new TreeSet<>(due));
        Due.is("the count of these members", members().size(), due.size());
        noPrivateMethodHasAPublicName();
        Due.end("FaceTest");
    }

    private static List<String> members() {
        List<String> found = new ArrayList<>();
        for (Constructor<?> c : StreetEditions.class.getDeclaredConstructors()) {
            found.add((Modifier.isPublic(c.getModifiers()) ? "" : "not public ")
                    + "StreetEditions" + types(c.getParameterTypes()));
        }
        for (Field f : StreetEditions.class.getDeclaredFields()) {
            if (!Modifier.isPrivate(f.getModifiers())) {
                boolean constant = f.getModifiers() == (Modifier.PUBLIC | Modifier.STATIC | Modifier.FINAL);
                found.add((constant ? "" : "no public constant ") + f.getType() + " " + f.getName());
            }
        }
        for (Method m : StreetEditions.class.getDeclaredMethods()) {
            if (!Modifier.isPrivate(m.getModifiers())) {
                found.add((m.getModifiers() == Modifier.PUBLIC ? "" : "not just public ") + signature(m));
            }
        }
        return found;
    }

    private static String signature(Method m) {
        StringBuilder said = new StringBuilder();
        said.append(m.getReturnType()).append(' ').append(m.getName()).append(types(m.getParameterTypes()));
        for (Class<?> e : m.getExceptionTypes()) {
            said.append(' ').append(e.getSimpleName());
        }
        return said.toString();
    }

    private static String types(Class<?>[] types) {
        StringBuilder said = new StringBuilder("(");
        for (Class<?> t : types) {
            said.append(said.length() == 1 ? "" : ",").append(t);
        }
        return said.append(')').toString();
    }

    private static void noPrivateMethodHasAPublicName() {
        for (Class<?> inside : StreetEditions.class.getDeclaredClasses()) {
            for (Method m : inside.getDeclaredMethods()) {
                boolean taken = false;
                for (Method face : StreetEditions.class.getDeclaredMethods()) {
                    taken |= Modifier.isPublic(face.getModifiers()) && face.getName().equals(m.getName());
                }
                Due.is("a public name in " + inside.getSimpleName() + ", " + m.getName(), taken, false);
            }
        }
    }
}
