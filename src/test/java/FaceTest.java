import java.lang.reflect.Constructor;
import java.lang.reflect.Field;
import java.lang.reflect.Method;
import java.lang.reflect.Modifier;
import java.util.Arrays;
import java.util.Set;
import java.util.TreeSet;

/** The class shows the document's face, and nothing else. */
public final class FaceTest {
    private static final String[] METHODS = {
        "int call(int, long)", "int data(int, int)", "int name(int, int, long)", "boolean begin(int, int)",
        "int carry(int, int)", "int cut(int, int)", "boolean lose(int, int)", "boolean twice(int, int)",
        "boolean lie(int, int, int)", "int underway(int, int)", "int resume(int)", "int tick(int)", "int end(int)",
        "int got(int, int) throws ArrayIndexOutOfBoundsException", "long named(int, int)", "int missing(int, int)",
        "int about(int, int)", "boolean busy(int)", "boolean forget(int)", "int count(int)"};

    private FaceTest() {
    }

    public static void main(String[] args) {
        Class<FarCacheLine> face = FarCacheLine.class;
        Due.is("the constant", FarCacheLine.NONE, -1);
        Due.is("modifiers of the class", face.getModifiers(), Modifier.PUBLIC | Modifier.FINAL);
        Set<String> seen = new TreeSet<>();
        for (Method method : face.getDeclaredMethods()) {
            if (!Modifier.isPrivate(method.getModifiers())) {
                seen.add(written(method));
                Due.is("modifiers of " + method, method.getModifiers(), Modifier.PUBLIC);
            }
        }
        Due.yes("the methods: " + seen, seen.equals(new TreeSet<>(Arrays.asList(METHODS))));
        for (Field field : face.getDeclaredFields()) {
            boolean constant = field.getName().equals("NONE") && field.getType() == int.class;
            Due.yes("the field " + field, constant || Modifier.isPrivate(field.getModifiers()));
        }
        Constructor<?>[] constructors = face.getDeclaredConstructors();
        Due.is("constructors", constructors.length, 1);
        Due.yes("takes an int", Arrays.equals(constructors[0].getParameterTypes(), new Class<?>[] {int.class}));
        Due.yes("is public", Modifier.isPublic(constructors[0].getModifiers()));
        Due.close();
    }

    private static String written(Method method) {
        StringBuilder text = new StringBuilder();
        text.append(method.getReturnType().getSimpleName()).append(' ').append(method.getName()).append('(');
        Class<?>[] types = method.getParameterTypes();
        for (int i = 0; i < types.length; i++) {
            text.append(i == 0 ? "" : ", ").append(types[i].getSimpleName());
        }
        text.append(')');
        for (Class<?> thrown : method.getExceptionTypes()) {
            text.append(" throws ").append(thrown.getSimpleName());
        }
        return text.toString();
    }
}
