import java.lang.reflect.Constructor;
import java.lang.reflect.Field;
import java.lang.reflect.Member;
import java.lang.reflect.Method;
import java.lang.reflect.Modifier;
import java.util.Set;
import java.util.TreeSet;

/** The class shows the document's face, and nothing beside it. */
public final class FaceTest {
    private static final String NO_SUCH = " throws java.util.NoSuchElementException";
    private static final String ARGUMENT = ",java.lang.IllegalArgumentException";
    private static final String STATE = ",java.lang.IllegalStateException";
    private static final String METHOD = "public %s GraphNamer.%s(%s)" + NO_SUCH;

    public static void main(String[] args) {
        Checks checks = new Checks();
        checks.due("the class's modifiers", "public final", Modifier.toString(GraphNamer.class.getModifiers()));
        checks.due("the members that can be seen", face(), seen());
        checks.due("NONE", -1, GraphNamer.NONE);
        for (Class<?> inside : GraphNamer.class.getDeclaredClasses()) {
            int modifiers = inside.getModifiers();
            checks.due(inside + " is static and not public or protected", true,
                    Modifier.isStatic(modifiers) && !Modifier.isPublic(modifiers) && !Modifier.isProtected(modifiers));
        }
        checks.end();
    }

    private static Set<String> face() {
        Set<String> face = new TreeSet<>();
        face.add("public static final int GraphNamer.NONE");
        face.add("public GraphNamer()");
        face.add(String.format(METHOD, "int", "vertex", "int,int") + ARGUMENT + STATE);
        face.add(String.format(METHOD, "int", "paint", "int,int,int") + ARGUMENT);
        face.add(String.format(METHOD, "int", "join", "int,int,int") + ARGUMENT + STATE);
        face.add(String.format(METHOD, "int", "part", "int,int,int") + ARGUMENT + STATE);
        String[] ofGraph = {"clear", "turn", "settle", "size", "name", "automorphisms", "orbits", "cells"};
        for (String method : ofGraph) {
            face.add(String.format(METHOD, "int", method, "int"));
        }
        for (String method : new String[] {"copy", "beside", "place", "fixing", "orbit", "cell"}) {
            face.add(String.format(METHOD, "int", method, "int,int"));
        }
        face.add(String.format(METHOD, "boolean", "same", "int,int"));
        face.add(String.format(METHOD, "int", "match", "int,int,int"));
        face.add(String.format(METHOD, "boolean", "moves", "int,int,int,int"));
        return face;
    }

    private static Set<String> seen() {
        Set<String> seen = new TreeSet<>();
        for (Field field : GraphNamer.class.getDeclaredFields()) {
            addSeen(seen, field, field.toGenericString());
        }
        for (Constructor<?> constructor : GraphNamer.class.getDeclaredConstructors()) {
            addSeen(seen, constructor, constructor.toGenericString());
        }
        for (Method method : GraphNamer.class.getDeclaredMethods()) {
            addSeen(seen, method, method.toGenericString());
        }
        return seen;
    }

    private static void addSeen(Set<String> seen, Member member, String text) {
        if (!Modifier.isPrivate(member.getModifiers()) && !member.isSynthetic()) {
            seen.add(text);
        }
    }
}
