import java.io.IOException;
import java.lang.reflect.Method;
import java.util.ArrayList;
import java.util.Arrays;
import java.util.LinkedHashMap;
import java.util.List;
import java.util.Map;
import java.util.regex.Matcher;
import java.util.regex.Pattern;

/**
 * Goes through the document: the words that stand beside each test stand in the part that its name
 * tells, and no word of what it is, of the Terms or of a promise is without a test beside it. (The
 * face is the matter of FaceTest.)
 */
public final class DocTest {
    private static final Class<?>[] TESTS = {WholeTest.class, LineTest.class, ServerTest.class, ClientTest.class,
        Promises1To11Test.class, Promises12To21Test.class};
    private static final Pattern PART = Pattern.compile("whatItIs|terms|promise\\d+");
    private static final int PROMISES = 21;

    /** A part of the document: its words on one line, and which of them have a test beside them. */
    private static final class Part {
        final String words;
        final boolean[] tested;

        Part(String text) {
            words = oneLine(text);
            tested = new boolean[words.length()];
        }

        int timesOf(String quote) {
            int times = 0;
            for (int at = words.indexOf(quote); at >= 0; at = words.indexOf(quote, at + 1)) {
                times++;
            }
            return times;
        }

        void mark(String quote) {
            int at = words.indexOf(quote);
            Arrays.fill(tested, at, at + quote.length(), true);
        }

        List<String> untested() {
            List<String> found = new ArrayList<>();
            StringBuilder gap = new StringBuilder();
            for (int i = 0; i <= words.length(); i++) {
                if (i < words.length() && !tested[i]) {
                    gap.append(words.charAt(i));
                } else {
                    if (gap.chars().anyMatch(Character::isLetterOrDigit)) {
                        found.add(gap.toString());
                    }
                    gap.setLength(0);
                }
            }
            return found;
        }
    }

    private DocTest() {
    }

    public static void main(String[] args) throws IOException {
        Map<String, Part> parts = partsOf(Doc.sections());
        for (Class<?> tests : TESTS) {
            for (Method test : Suite.testsOf(tests)) {
                Due.enter(test.getName());
                look(test, parts);
                Due.leave();
            }
        }
        allIsTested("whatItIs", parts);
        allIsTested("terms", parts);
        for (int promise = 1; promise <= PROMISES; promise++) {
            allIsTested("promise" + promise, parts);
        }
        Due.close();
    }

    private static void look(Method test, Map<String, Part> parts) {
        Matcher name = PART.matcher(test.getName());
        Part part = name.lookingAt() ? parts.get(name.group()) : null;
        Due.yes("its name tells a part of the document", part != null);
        if (part == null) {
            return;
        }
        for (String quote : test.getAnnotation(Says.class).value()) {
            int times = part.timesOf(quote);
            Due.is("'" + quote + "' stands there so often:", times, 1);
            if (times > 0) {
                part.mark(quote);
            }
        }
    }

    private static void allIsTested(String name, Map<String, Part> parts) {
        Part part = parts.get(name);
        Due.yes("the document has a part " + name, part != null);
        if (part != null) {
            for (String gap : part.untested()) {
                Due.wrong(name + ": no test stands beside '" + gap + "'");
            }
        }
    }

    private static Map<String, Part> partsOf(Map<String, String> sections) {
        Map<String, Part> parts = new LinkedHashMap<>();
        sections.forEach((heading, text) -> {
            if (heading.equals("What it is")) {
                parts.put("whatItIs", new Part(text));
            } else if (heading.equals("Terms")) {
                parts.put("terms", new Part(text));
            } else if (heading.startsWith("Promise ")) {
                String number = heading.substring("Promise ".length(), heading.indexOf(':'));
                parts.put("promise" + number, new Part(withoutSignature(text)));
            }
        });
        return parts;
    }

    /** A promise begins with its method's signature, which is the matter of FaceTest. */
    private static String withoutSignature(String text) {
        return text.replaceFirst("^\\s*`[^`]*`:", "");
    }

    private static String oneLine(String text) {
        return text.replaceAll("(?m)^```.*$", "").replaceAll("\\s+", " ").trim();
    }
}
