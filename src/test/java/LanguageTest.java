import java.io.IOException;
import java.lang.reflect.Array;
import java.lang.reflect.Field;
import java.lang.reflect.Method;
import java.lang.reflect.Modifier;
import java.nio.charset.StandardCharsets;
import java.nio.file.Files;
import java.nio.file.Path;
import java.util.ArrayList;
import java.util.List;
import java.util.Set;
import java.util.TreeSet;
import java.util.regex.Matcher;
import java.util.regex.Pattern;

/**
 * The rules of LANGUAGE.md that can be seen in the class's text, or by looking into it. Where a rule
 * allows more than the class needs, this test holds the class to what it needs.
 */
public final class LanguageTest {
    private static final Path SOURCE = Path.of("src/main/java/BlendRows.java");
    private static final Set<String> OWN_CLASSES = Set.of("BlendRows", "Layer", "Sums", "Modes");
    private static final Set<String> LIBRARY = Set.of("Math.max(", "Math.min(", "Math.floorDiv(");
    private static final Set<String> EXCEPTIONS = Set.of("IllegalArgumentException", "IllegalStateException",
            "ArrayIndexOutOfBoundsException", "UnsupportedOperationException");
    private static final int LONGEST_METHOD = 60;

    public static void main(String[] args) throws IOException, IllegalAccessException {
        String text = Files.readString(SOURCE, StandardCharsets.ISO_8859_1);
        String code = withoutTextsAndComments(text);
        rule1OneClass(code);
        rule2To4Names(text, code);
        rule6Exceptions(text, code);
        rule9Loops(code);
        rule11Sizes(code);
        rule12Made(code);
        room();
        Check.end();
    }

    private static String withoutTextsAndComments(String text) {
        return text.replaceAll("(?s)/\\*.*?\\*/", "").replaceAll("//[^\n]*", "").replaceAll("\"[^\"\n]*\"", "\"\"");
    }

    private static List<String> found(String pattern, String in) {
        List<String> all = new ArrayList<>();
        Matcher matcher = Pattern.compile(pattern).matcher(in);
        while (matcher.find()) {
            all.add(matcher.groupCount() > 0 ? matcher.group(1) : matcher.group());
        }
        return all;
    }

    private static void none(String rule, String pattern, String in) {
        Check.due("rule " + rule, found(pattern, in), List.of());
    }

    private static void rule1OneClass(String code) {
        none("1: no package line, nothing imported", "\\b(?:package|import)\\b", code);
        Check.due("rule 1: one class that is in no other", found("(?m)^(?:\\w+ )*(?:class|interface|enum|record) \\w+", code),
                List.of("public final class BlendRows"));
    }

    private static void rule2To4Names(String text, String code) {
        none("2: no lambda, no method reference", "->|::", code);
        none("3: texts hold characters 0 to 255, these even less", "[^\\n -~]", text);
        none("3: no doubles, nothing that holds anything", "\\b(?:double|float|Object|var)\\b", code);
        Set<String> strangers = new TreeSet<>(found("\\b([A-Z]\\w*[a-z]\\w*)\\b", code));
        strangers.removeAll(OWN_CLASSES);
        strangers.removeAll(EXCEPTIONS);
        strangers.remove("Math");
        Check.due("rule 4: classes of the library", strangers, Set.of());
        Set<String> used = new TreeSet<>(found("\\bMath\\.\\w+\\(", code));
        used.removeAll(LIBRARY);
        Check.due("rule 4: functions of the library", used, Set.of());
    }

    private static void rule6Exceptions(String text, String code) {
        none("6: none of these", "\\b(?:try|catch|finally|synchronized|assert|instanceof)\\b", code);
        List<String> thrown = found("\\bthrow\\b", code);
        List<String> plain = found("\\bthrow new \\w+\\(\"[^\"\\n]+\"\\);", text);
        Check.due("rule 6: each throw has a written text", plain.size(), thrown.size());
        Check.due("rule 6: exceptions", new TreeSet<>(found("\\bthrow new (\\w+)", code)), new TreeSet<>(EXCEPTIONS));
        for (String body : constructors(code)) {
            none("6: no throw in a constructor", "\\bthrow\\b", body);
        }
    }

    private static void rule9Loops(String code) {
        none("9: every loop tells its end in its own line", "\\b(?:while|do)\\b|\\bfor \\([^;]*;\\s*;", code);
    }

    private static void rule11Sizes(String code) {
        Check.due("rule 11: some twelve classes", OWN_CLASSES.size() <= 12, true);
        for (String body : bodies("(?m)^ {4,8}[a-zA-Z][^=;\\n]*\\)(?: throws [\\w, ]+)? \\{$", code)) {
            String head = body.substring(0, body.indexOf('\n')).trim();
            Check.due("rule 11: short: " + head, body.split("\n").length <= LONGEST_METHOD, true);
        }
        List<Class<?>> all = new ArrayList<>(List.of(BlendRows.class.getDeclaredClasses()));
        all.add(BlendRows.class);
        Set<String> names = new TreeSet<>();
        for (Class<?> one : all) {
            names.add(one.getSimpleName());
            int fields = 0;
            for (Field field : one.getDeclaredFields()) {
                fields += Modifier.isStatic(field.getModifiers()) ? 0 : 1;
            }
            Check.due("rule 11: fields of " + one.getSimpleName(), fields <= 20, true);
            for (Method method : one.getDeclaredMethods()) {
                Check.due("rule 11: parameters of " + method.getName(), method.getParameterCount() <= 7, true);
            }
        }
        Check.due("the classes that this test knows", names, new TreeSet<>(OWN_CLASSES));
    }

    /** Calls use the rows again that the constructors made: else long runs would fill the room. */
    private static void rule12Made(String code) {
        String calls = code;
        for (String body : constructors(code)) {
            Check.due("constructors make the rows", body.contains(" = new "), true);
            calls = calls.replace(body, "");
        }
        none("12: a call makes nothing but its exception", "(?<!throw )\\bnew\\b", calls);
        none("12: nor lets the library make it", "\\bclone\\b|\\bcopyOf|\"\"\\s*\\+|\\+\\s*\"\"", calls);
    }

    private static List<String> constructors(String code) {
        List<String> all = bodies("(?m)^ +(?:public )?(?:BlendRows|Layer|Sums|Modes)\\(.*\\) \\{$", code);
        Check.due("constructors", all.size(), 2);
        return all;
    }

    /** What stands from a head to the brace that closes it, line by line. */
    private static List<String> bodies(String head, String code) {
        List<String> all = new ArrayList<>();
        Matcher matcher = Pattern.compile(head).matcher(code);
        while (matcher.find()) {
            int open = 1;
            int end = matcher.end();
            for (; open > 0 && end < code.length(); end++) {
                open += code.charAt(end) == '{' ? 1 : code.charAt(end) == '}' ? -1 : 0;
            }
            all.add(code.substring(matcher.start(), end));
        }
        return all;
    }

    private static void room() throws IllegalAccessException {
        int[] room = new int[2];
        count(new BlendRows(12, 12), room);
        Check.due("objects and arrays of the largest page: " + room[0], room[0] <= 50, true);
        Check.due("fields and elements of the largest page: " + room[1], room[1] <= 5000, true);
    }

    private static void count(Object one, int[] room) throws IllegalAccessException {
        room[0]++;
        if (one.getClass().isArray()) {
            room[1] += Array.getLength(one);
            for (int i = 0; i < Array.getLength(one) && one instanceof Object[]; i++) {
                count(((Object[]) one)[i], room);
            }
            return;
        }
        for (Field field : one.getClass().getDeclaredFields()) {
            if (!Modifier.isStatic(field.getModifiers())) {
                room[1]++;
                field.setAccessible(true);
                if (!field.getType().isPrimitive()) {
                    count(field.get(one), room);
                }
            }
        }
    }
}
