import java.lang.reflect.Constructor;
import java.lang.reflect.Field;
import java.lang.reflect.Method;
import java.lang.reflect.Modifier;
import java.util.Set;
import java.util.TreeSet;

/** The document's face, all of it and nothing beside it; and what LANGUAGE.md says of members and static fields. */
final class FaceTest {
    private static final String[] FACE = {
        "int BAD = -1", "int NO = -2", "int FULL = -3", "ProofMap()",
        "int put(int, int)", "int remove(int)", "long get(int, int)", "int size(int)", "int commit()", "int back(int)",
        "int word(int, int)", "int prove(int, int)", "int siblings()", "int sibling(int, int)", "int end(int)",
        "int alter(int, int, int)", "int claim(int, int)", "int cut(int)", "int verify(int, int)",
        "int alike(int, int)", "int versions()"
    };

    private FaceTest() {
    }

    public static void main(String[] args) throws IllegalAccessException {
        Set<String> want = new TreeSet<>(Set.of(FACE));
        Set<String> found = face();
        for (String member : want) {
            Check.holds("the face has " + member, found.contains(member));
        }
        for (String member : found) {
            Check.holds("the document has " + member, want.contains(member));
        }
        Check.holds("the class is final", Modifier.isFinal(ProofMap.class.getModifiers()));
        Check.holds("the class is public", Modifier.isPublic(ProofMap.class.getModifiers()));
        privateNames();
        staticsAreFinal(ProofMap.class);
        for (Class<?> inside : ProofMap.class.getDeclaredClasses()) {
            Check.holds(inside + " is static", Modifier.isStatic(inside.getModifiers()));
            staticsAreFinal(inside);
        }
        Check.end();
    }

    private static Set<String> face() throws IllegalAccessException {
        Set<String> found = new TreeSet<>();
        for (Field field : ProofMap.class.getDeclaredFields()) {
            if (!Modifier.isPrivate(field.getModifiers())) {
                Check.holds(field + " is a constant", isConstant(field.getModifiers()));
                found.add(field.getType() + " " + field.getName() + " = " + field.getInt(null));
            }
        }
        for (Constructor<?> maker : ProofMap.class.getDeclaredConstructors()) {
            if (!Modifier.isPrivate(maker.getModifiers())) {
                found.add("ProofMap(" + types(maker.getParameterTypes()) + ")");
            }
        }
        for (Method method : ProofMap.class.getDeclaredMethods()) {
            if (!Modifier.isPrivate(method.getModifiers())) {
                Check.holds(method + " is public", Modifier.isPublic(method.getModifiers()));
                Check.holds(method + " is no static one", !Modifier.isStatic(method.getModifiers()));
                found.add(method.getReturnType() + " " + method.getName() + "(" + types(method.getParameterTypes()) + ")");
            }
        }
        return found;
    }

    private static void privateNames() {
        Set<String> publicNames = new TreeSet<>();
        for (Method method : ProofMap.class.getDeclaredMethods()) {
            if (Modifier.isPublic(method.getModifiers())) {
                publicNames.add(method.getName());
            }
        }
        for (Method method : ProofMap.class.getDeclaredMethods()) {
            if (Modifier.isPrivate(method.getModifiers())) {
                Check.holds(method + " has a name of its own", !publicNames.contains(method.getName()));
            }
        }
    }

    private static void staticsAreFinal(Class<?> some) {
        for (Field field : some.getDeclaredFields()) {
            if (Modifier.isStatic(field.getModifiers())) {
                Check.holds(field + " is final", Modifier.isFinal(field.getModifiers()));
            }
        }
    }

    private static boolean isConstant(int modifiers) {
        return Modifier.isPublic(modifiers) && Modifier.isStatic(modifiers) && Modifier.isFinal(modifiers);
    }

    private static String types(Class<?>[] types) {
        StringBuilder text = new StringBuilder();
        for (Class<?> type : types) {
            text.append(text.length() == 0 ? "" : ", ").append(type);
        }
        return text.toString();
    }
}
