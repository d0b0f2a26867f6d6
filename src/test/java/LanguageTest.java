import java.io.IOException;
import java.lang.reflect.Field;
import java.lang.reflect.Method;
import java.lang.reflect.Modifier;
import java.nio.file.Files;
import java.nio.file.Path;
import java.util.ArrayList;
import java.util.Arrays;
import java.util.LinkedHashMap;
import java.util.List;
import java.util.Map;
import java.util.Set;
import java.util.TreeSet;
import java.util.regex.Matcher;
import java.util.regex.Pattern;

/** Does src/main/java/StillGood.java keep to ../shared/LANGUAGE.md, as far as its text and its face show it? */
public final class LanguageTest {
    private static final Path SOURCE = Path.of("src/main/java/StillGood.java");
    private static final Path DOCUMENT = Path.of("../shared/DOC.md");
    private static final Pattern HEAD = Pattern.compile(
        "^( +)(?:public |private |static |final )*[\\w\\[\\]<>]*? ?(\\w+)\\(([^)]*)\\) \\{$");

    private static int wrong = 0;

    private static void due(boolean holds, String rule) {
        if (!holds) {
            wrong++;
            System.out.println("LANGUAGE: " + rule);
        }
    }

    public static void main(String[] arguments) throws IOException {
        String source = Files.readString(SOURCE);
        String code = withoutComments(source);
        face(Files.readString(DOCUMENT));
        members();
        words(code);
        due(source.chars().allMatch(c -> c < 128), "4: signs are 1 to 127");
        methods(code);
        System.out.println(wrong == 0 ? "the language is kept to" : wrong + " rules are broken");
        if (wrong != 0) {
            System.exit(1);
        }
    }

    private static String withoutComments(String source) {
        return source.replaceAll("(?s)/\\*.*?\\*/", "").replaceAll("//[^\n]*", "");
    }

    /** 1: the face, as the document's first java block tells it. */
    private static void face(String document) {
        int from = document.indexOf("```java");
        String block = document.substring(from, document.indexOf("```", from + 3));
        Set<String> told = new TreeSet<>();
        Matcher m = Pattern.compile("public (int|long) (\\w+)\\(([^)]*)\\);").matcher(block);
        while (m.find()) {
            long many = m.group(3).isEmpty() ? 0 : m.group(3).split(",").length;
            told.add(m.group(1) + " " + m.group(2) + " " + many);
        }
        Set<String> there = new TreeSet<>();
        for (Method method : StillGood.class.getDeclaredMethods()) {
            if (Modifier.isPublic(method.getModifiers())) {
                there.add(method.getReturnType() + " " + method.getName() + " " + method.getParameterCount());
                due(Arrays.stream(method.getParameterTypes()).allMatch(t -> t == int.class), "1: int alone, " + method);
                due(!Modifier.isStatic(method.getModifiers()), "1: no static method, " + method);
            } else {
                due(Modifier.isPrivate(method.getModifiers()), "1: not private, " + method);
            }
        }
        due(told.size() == 44 && told.equals(there), "1: the face is " + there);
        due(StillGood.class.getDeclaredConstructors().length == 1, "1: one constructor");
        due(Modifier.isFinal(StillGood.class.getModifiers()), "1: final");
    }

    private static void members() {
        List<Class<?>> classes = new ArrayList<>(Arrays.asList(StillGood.class.getDeclaredClasses()));
        due(classes.size() < 12, "11: classes");
        Set<String> face = new TreeSet<>();
        for (Method method : StillGood.class.getDeclaredMethods()) {
            if (Modifier.isPublic(method.getModifiers())) {
                face.add(method.getName());
            }
        }
        for (Class<?> inside : classes) {
            due(Modifier.isStatic(inside.getModifiers()) && Modifier.isPrivate(inside.getModifiers()), "1, 2: " + inside);
            due(inside.getDeclaredClasses().length == 0, "2: classes in " + inside);
        }
        classes.add(StillGood.class);
        for (Class<?> one : classes) {
            int fields = 0;
            for (Field field : one.getDeclaredFields()) {
                boolean isStatic = Modifier.isStatic(field.getModifiers());
                fields += isStatic ? 0 : 1;
                due(Modifier.isPrivate(field.getModifiers()), "1: " + field);
                due(!isStatic || Modifier.isFinal(field.getModifiers()), "5: " + field);
            }
            due(fields <= 20, "11: fields of " + one);
            for (Method method : one.getDeclaredMethods()) {
                due(method.getParameterCount() <= 7, "11: " + method);
                due(Modifier.isPublic(method.getModifiers()) || !face.contains(method.getName()), "1: named as the face, " + method);
            }
        }
    }

    private static void words(String code) {
        String[] never = {
            "throw", "throws", "try", "catch", "finally", "synchronized", "assert", "import", "package", "protected",
            "float", "double", "volatile", "transient", "native", "Random", "System", "Thread", "equals", "hashCode",
            "toString", "Exact", "yield", "var", "instanceof", "enum", "interface", "extends", "implements"};
        for (String word : never) {
            due(!Pattern.compile("\\b" + word + "\\b").matcher(code).find(), "word " + word);
        }
        due(!code.contains("->") && !code.contains("::"), "2: lambda or reference");
        due(!code.contains("static {"), "5: static block");
        due(!code.contains("\""), "4: texts");
        Matcher library = Pattern.compile("\\b(Math|Integer|Long|Arrays|String|List)\\.(\\w+)").matcher(code);
        while (library.find()) {
            due(Set.of("Math.max", "Math.min", "Math.abs").contains(library.group()), "4: " + library.group());
        }
    }

    /** 8, 11, 12: how long each method is, how deep calls go, that none calls itself and none makes an object. */
    private static void methods(String code) {
        Map<String, StringBuilder> bodies = new LinkedHashMap<>();
        String name = null;
        String end = null;
        int lines = 0;
        for (String line : code.split("\n")) {
            Matcher head = HEAD.matcher(line);
            if (name == null && head.matches() && !line.contains(" class ")) {
                name = head.group(2);
                end = head.group(1) + "}";
                lines = 0;
                bodies.computeIfAbsent(name, k -> new StringBuilder());
            } else if (name != null && line.equals(end)) {
                due(lines <= 60, "11: " + name + " has " + lines + " lines");
                name = null;
            } else if (name != null) {
                lines++;
                bodies.get(name).append(line).append('\n');
            }
        }
        due(bodies.size() > 80, "only " + bodies.size() + " methods found");
        Set<String> makers = Set.of("StillGood", "Jug", "Thoughts", "Kitchen");
        for (String method : bodies.keySet()) {
            due(makers.contains(method) || !bodies.get(method).toString().contains("new "), "12: " + method + " makes");
            int depth = depthOf(method, bodies, 0);
            due(depth <= 8, "11: calls of " + method + " go " + depth + " deep");
        }
    }

    private static int depthOf(String method, Map<String, StringBuilder> bodies, int above) {
        if (above > 20) {
            return 1000;
        }
        int deepest = 0;
        Matcher call = Pattern.compile("\\b(\\w+)\\(").matcher(bodies.get(method));
        while (call.find()) {
            String called = call.group(1);
            if (bodies.containsKey(called)) {
                deepest = Math.max(deepest, depthOf(called, bodies, above + 1));
            }
        }
        return deepest + 1;
    }
}
