import java.io.IOException;
import java.lang.reflect.Constructor;
import java.lang.reflect.Field;
import java.lang.reflect.Method;
import java.lang.reflect.Modifier;
import java.util.ArrayList;
import java.util.Collections;
import java.util.List;

/** The public face is the document's, with what it throws, and nothing else of the class can be seen. */
public final class FaceTest {
    private static final int METHODS = 16;

    public static void main(String[] args) throws IOException {
        Class<?> land = UmbrellaLand.class;
        Check.same("the class is public", Modifier.isPublic(land.getModifiers()), true);
        Check.same("the class is final", Modifier.isFinal(land.getModifiers()), true);
        Check.same("public constructors", land.getConstructors().length, 1);
        for (Constructor<?> made : land.getDeclaredConstructors()) {
            Check.same("parameters of the constructor", made.getParameterCount(), 0);
            Check.same("exceptions of the constructor", made.getExceptionTypes().length, 0);
        }
        for (Field field : land.getDeclaredFields()) {
            Check.same(field.getName() + " is private", Modifier.isPrivate(field.getModifiers()), true);
        }
        for (Class<?> inside : land.getDeclaredClasses()) {
            int modifiers = inside.getModifiers();
            boolean hidden = !Modifier.isPublic(modifiers) && !Modifier.isProtected(modifiers);
            Check.same(inside.getName() + " can't be seen", hidden, true);
            Check.same(inside.getName() + " is static", Modifier.isStatic(modifiers), true);
        }
        checkMethods(land, new Document(Document.FILE));
        Check.end("FaceTest");
    }

    private static void checkMethods(Class<?> land, Document document) {
        List<String> due = new ArrayList<>();
        List<String> names = new ArrayList<>();
        for (Document.Call call : document.face()) {
            due.add(signature(call.type, call.name, call.parameterTypes, call.exceptions));
            names.add(call.name);
        }
        List<String> seen = new ArrayList<>();
        for (Method method : land.getDeclaredMethods()) {
            String signature = signature(method.getReturnType().getSimpleName(), method.getName(),
                    namesOf(method.getParameterTypes()), namesOf(method.getExceptionTypes()));
            if (Modifier.isPrivate(method.getModifiers())) {
                Check.same(signature + " bears a public name", names.contains(method.getName()), false);
            } else {
                seen.add(signature);
                Check.same(signature + " is public", Modifier.isPublic(method.getModifiers()), true);
                Check.same(signature + " is static", Modifier.isStatic(method.getModifiers()), false);
            }
        }
        Collections.sort(seen);
        Collections.sort(due);
        Check.same("methods of the face", due.size(), METHODS);
        Check.same("the face is " + seen + ", due is " + due, seen.equals(due), true);
    }

    private static List<String> namesOf(Class<?>[] types) {
        List<String> names = new ArrayList<>();
        for (Class<?> type : types) {
            names.add(type.getSimpleName());
        }
        return names;
    }

    private static String signature(String type, String name, List<String> parameters, List<String> exceptions) {
        return type + " " + name + "(" + String.join(",", parameters) + ") throws " + String.join(",", exceptions);
    }
}
