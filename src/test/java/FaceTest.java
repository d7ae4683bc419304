import java.lang.reflect.Constructor;
import java.lang.reflect.Field;
import java.lang.reflect.Method;
import java.lang.reflect.Modifier;
import java.util.ArrayList;
import java.util.Collections;
import java.util.List;

/** The public face is the document's, and nothing else of the class can be seen. */
public final class FaceTest {
    private static final String[] FACE = {
        "int addCitizen(int,int,int,int,int)",
        "int advise(int)",
        "int bring(int,int)",
        "int build(int,int)",
        "int citizen(int,int)",
        "int count(int)",
        "int foresee(int,int)",
        "int lasts(int,int)",
        "int pass(int)",
        "int setDemand(int,int)",
        "int setRain(int,int)",
        "int shelter(int,int)",
        "int umbrella(int,int)",
        "long digest()",
        "double trust()",
        "boolean wouldGet(int,int)",
    };

    public static void main(String[] args) {
        Class<?> land = UmbrellaLand.class;
        Check.same("the class is public", Modifier.isPublic(land.getModifiers()), true);
        Check.same("the class is final", Modifier.isFinal(land.getModifiers()), true);
        Check.same("public constructors", land.getConstructors().length, 1);
        for (Constructor<?> made : land.getDeclaredConstructors()) {
            Check.same("parameters of the constructor", made.getParameterCount(), 0);
        }
        for (Field field : land.getDeclaredFields()) {
            Check.same(field.getName() + " is private", Modifier.isPrivate(field.getModifiers()), true);
        }
        checkMethods(land);
        Check.end("FaceTest");
    }

    private static void checkMethods(Class<?> land) {
        List<String> seen = new ArrayList<>();
        for (Method method : land.getDeclaredMethods()) {
            if (!Modifier.isPrivate(method.getModifiers())) {
                seen.add(signature(method));
                Check.same(signature(method) + " is public", Modifier.isPublic(method.getModifiers()), true);
            }
        }
        List<String> due = new ArrayList<>(List.of(FACE));
        Collections.sort(seen);
        Collections.sort(due);
        Check.same("the face is " + seen + ", due is " + due, seen.equals(due), true);
    }

    private static String signature(Method method) {
        StringBuilder text = new StringBuilder();
        text.append(method.getReturnType().getName()).append(' ').append(method.getName()).append('(');
        Class<?>[] types = method.getParameterTypes();
        for (int i = 0; i < types.length; i++) {
            text.append(i == 0 ? "" : ",").append(types[i].getName());
        }
        return text.append(')').toString();
    }
}
