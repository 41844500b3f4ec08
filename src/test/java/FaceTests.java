import java.lang.reflect.Constructor;
import java.lang.reflect.Field;
import java.lang.reflect.Method;
import java.lang.reflect.Modifier;
import java.util.Set;
import java.util.TreeSet;

/** The class has the document's public face, and no other member that is not private. */
public final class FaceTests {
    public static void main(String[] args) {
        Set<String> due = new TreeSet<>();
        due.add("public static final int LocalBounds.NONE");
        due.add("public LocalBounds(int,int)");
        String index = "java.lang.IndexOutOfBoundsException";
        String argument = "java.lang.IllegalArgumentException";
        due.add("public int LocalBounds.put(int,int,int) throws " + index + "," + argument);
        due.add("public int LocalBounds.paint(int,int)");
        due.add("public int LocalBounds.global()");
        due.add("public int LocalBounds.local(int,int) throws " + argument);
        due.add("public int LocalBounds.spread(int) throws " + argument);
        due.add("public long LocalBounds.rest()");
        due.add("public int LocalBounds.ordered(int) throws " + argument);
        due.add("public int LocalBounds.join(int,int) throws " + argument);
        due.add("public int LocalBounds.clean(int) throws " + argument);
        due.add("public int LocalBounds.edges()");
        due.add("public int LocalBounds.invert()");
        due.add("public boolean LocalBounds.at(int,int) throws " + index);
        due.add("public long LocalBounds.sum(int,int,int,int,boolean) throws " + argument);
        due.add("public int LocalBounds.cell(int,int,int) throws " + argument);
        due.add("public int LocalBounds.told(int)");
        due.add("public void LocalBounds.clear()");
        Check.same("the face", String.join("\n", members()), String.join("\n", due));
        Check.same("the class", Modifier.toString(LocalBounds.class.getModifiers()), "public final");
        noPrivateMethodHasAPublicName();
        Check.end();
    }

    private static Set<String> members() {
        Set<String> members = new TreeSet<>();
        for (Field field : LocalBounds.class.getDeclaredFields()) {
            if (!Modifier.isPrivate(field.getModifiers())) {
                members.add(field.toString());
            }
        }
        for (Constructor<?> constructor : LocalBounds.class.getDeclaredConstructors()) {
            members.add(constructor.toString());
        }
        for (Method method : LocalBounds.class.getDeclaredMethods()) {
            if (!Modifier.isPrivate(method.getModifiers())) {
                members.add(method.toString());
            }
        }
        return members;
    }

    private static void noPrivateMethodHasAPublicName() {
        Set<String> open = new TreeSet<>();
        for (Method method : LocalBounds.class.getDeclaredMethods()) {
            if (Modifier.isPublic(method.getModifiers())) {
                open.add(method.getName());
            }
        }
        for (Method method : LocalBounds.class.getDeclaredMethods()) {
            if (Modifier.isPrivate(method.getModifiers()) && open.contains(method.getName())) {
                Check.fail("a private method bears a public name: " + method.getName());
            }
        }
    }
}
