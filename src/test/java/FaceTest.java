import java.io.IOException;
import java.lang.reflect.Executable;
import java.lang.reflect.Field;
import java.lang.reflect.Method;
import java.lang.reflect.Modifier;
import java.util.Map;
import java.util.Set;
import java.util.TreeSet;
import java.util.regex.Matcher;
import java.util.regex.Pattern;

/** The class shows the document's face, as its block and its promises write it, and nothing else. */
public final class FaceTest {
    private static final Class<FarCacheLine> FACE = FarCacheLine.class;
    private static final Pattern CLASS = Pattern.compile("public final class (\\w+) \\{");
    private static final Pattern CONSTANT = Pattern.compile("public static final int (\\w+) = (-?\\d+);");
    private static final Pattern MEMBER = Pattern.compile("public (.*\\).*);");
    private static final Pattern SIGNATURE = Pattern.compile("^\\s*`([^`]*)`:");
    private static final Pattern PARAMETER_NAME = Pattern.compile("(int|long) \\w+(?=[,)])");

    private FaceTest() {
    }

    public static void main(String[] args) throws IOException, IllegalAccessException {
        Map<String, String> sections = Doc.sections();
        String block = sections.getOrDefault("The public face", "");
        classIsThere(block);
        constantsAre(block);
        Set<String> there = membersOfClass();
        same("the document's block", membersOf(block), there);
        same("the promises' signatures", membersOfPromises(sections), there);
        Due.close();
    }

    private static void same(String where, Set<String> due, Set<String> there) {
        Due.is(where + ": members", due.size(), 21);
        for (String member : due) {
            Due.yes(where + " has " + member + ", and the class too", there.contains(member));
        }
        for (String member : there) {
            Due.yes("the class has " + member + ", and so have " + where, due.contains(member));
        }
    }

    private static void classIsThere(String block) {
        Matcher written = CLASS.matcher(block);
        Due.yes("the document writes the class", written.find() && written.group(1).equals(FACE.getName()));
        Due.is("modifiers of the class", FACE.getModifiers(), Modifier.PUBLIC | Modifier.FINAL);
        Due.yes("no class above it", FACE.getSuperclass() == Object.class && FACE.getInterfaces().length == 0);
        for (Class<?> inside : FACE.getDeclaredClasses()) {
            int modifiers = inside.getModifiers();
            Due.yes(inside + " is static", Modifier.isStatic(modifiers));
            Due.no(inside + " is seen outside", Modifier.isPublic(modifiers) || Modifier.isProtected(modifiers));
        }
    }

    private static void constantsAre(String block) throws IllegalAccessException {
        Set<String> written = new TreeSet<>();
        Matcher constant = CONSTANT.matcher(block);
        while (constant.find()) {
            written.add(constant.group(1) + " = " + constant.group(2));
        }
        Due.is("constants of the document", written.size(), 1);
        for (Field field : FACE.getDeclaredFields()) {
            if (!Modifier.isPrivate(field.getModifiers())) {
                Due.is("modifiers of " + field, field.getModifiers(), Modifier.PUBLIC | Modifier.STATIC | Modifier.FINAL);
                Due.yes("the document has " + field, written.remove(field.getName() + " = " + field.get(null)));
            }
        }
        Due.yes("constants that the class has not: " + written, written.isEmpty());
    }

    private static Set<String> membersOf(String block) {
        Set<String> members = new TreeSet<>();
        Matcher member = MEMBER.matcher(block);
        while (member.find()) {
            members.add(withoutNames(member.group(1)));
        }
        return members;
    }

    private static Set<String> membersOfPromises(Map<String, String> sections) {
        Set<String> members = new TreeSet<>();
        sections.forEach((heading, text) -> {
            Matcher signature = SIGNATURE.matcher(text);
            if (heading.startsWith("Promise ") && signature.find()) {
                members.add(withoutNames(signature.group(1)));
            }
        });
        return members;
    }

    /** Java keeps no names of parameters, so they can't be held against the class. */
    private static String withoutNames(String signature) {
        return PARAMETER_NAME.matcher(signature).replaceAll("$1");
    }

    private static Set<String> membersOfClass() {
        Set<String> members = new TreeSet<>();
        for (Executable constructor : FACE.getDeclaredConstructors()) {
            members.add(written("", FACE.getName(), constructor));
        }
        for (Method method : FACE.getDeclaredMethods()) {
            if (!Modifier.isPrivate(method.getModifiers())) {
                members.add(written(method.getReturnType() + " ", method.getName(), method));
            }
        }
        return members;
    }

    private static String written(String answer, String name, Executable member) {
        Due.is("modifiers of " + member, member.getModifiers(), Modifier.PUBLIC);
        StringBuilder text = new StringBuilder(answer).append(name).append('(');
        Class<?>[] types = member.getParameterTypes();
        for (int i = 0; i < types.length; i++) {
            text.append(i == 0 ? "" : ", ").append(types[i].getSimpleName());
        }
        text.append(')');
        for (Class<?> thrown : member.getExceptionTypes()) {
            text.append(" throws ").append(thrown.getSimpleName());
        }
        return text.toString();
    }
}
