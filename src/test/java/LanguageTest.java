import java.lang.reflect.Field;
import java.lang.reflect.Method;
import java.lang.reflect.Modifier;
import java.nio.file.Files;
import java.nio.file.Path;
import java.util.ArrayList;
import java.util.List;
import java.util.regex.Matcher;
import java.util.regex.Pattern;

/** A coarse look at the rules of ../shared/LANGUAGE.md that a text or a class file shows. */
final class LanguageTest extends Suite {
    private static final String[] FORBIDDEN = {"->", "::", "\\bcatch\\b", "\\btry\\b", "\\bfinally\\b",
        "\\bsynchronized\\b", "\\bassert\\b", "\\binstanceof\\b", "\\bstatic \\{", "^package\\b", "\\bprotected\\b",
        "\\bvar\\b", "\\bequals\\b", "\\bhashCode\\b", "\\btoString\\b", "\\bSystem\\.(?!arraycopy)", "Exact\\(",
        "\\bpublic (?!final class|static final int|Conv|int|long|boolean)"};
    private static final Pattern HEAD = Pattern.compile(
            "^( {4}| {8})(?!private static final|return)[\\w<>\\[\\]][\\w<>\\[\\] ]*\\(.*");

    @Override
    void run() {
        test("LANGUAGE.md: words that are not allowed", () -> {
            List<String> lines = source();
            for (int i = 0; i < lines.size(); i++) {
                String code = lines.get(i).replaceAll("\"[^\"]*\"|//.*|^\\s*/?\\*.*", "");
                for (String pattern : FORBIDDEN) {
                    if (Pattern.compile(pattern).matcher(code).find()) {
                        fault("line " + (i + 1) + " has " + pattern);
                    }
                }
                if (code.startsWith("import") && !code.equals("import java.util.NoSuchElementException;")) {
                    fault("line " + (i + 1) + " imports");
                }
            }
        });
        test("LANGUAGE.md: rule 11, short methods with few parameters in few classes", this::sizes);
        test("LANGUAGE.md: rules 1 and 2, the members", this::members);
        test("LANGUAGE.md: rule 6, what is thrown", () -> {
            for (String line : source()) {
                Matcher thrown = Pattern.compile("throw (.*)").matcher(line);
                if (thrown.find() && !thrown.group(1).matches(
                        "new (IllegalState|IllegalArgument|IndexOutOfBounds|NoSuchElement)+Exception\\(\"[^\"]*\"\\);")) {
                    fault("throws " + thrown.group(1));
                }
            }
        });
    }

    private void sizes() {
        List<String> lines = source();
        int start = -1;
        String indent = "";
        for (int i = 0; i < lines.size(); i++) {
            Matcher head = HEAD.matcher(lines.get(i));
            if (start < 0 && head.matches()) {
                start = i;
                indent = head.group(1);
            }
            if (start >= 0 && lines.get(i).equals(indent + "}")) {
                if (i - start >= 60) {
                    fault("the method at line " + (start + 1) + " is long");
                }
                start = -1;
            }
        }
    }

    private void members() {
        List<Class<?>> classes = new ArrayList<>(List.of(ConvolutionBench.class.getDeclaredClasses()));
        if (classes.size() > 11) {
            fault("there are too many classes");
        }
        List<String> face = new ArrayList<>();
        for (Method method : ConvolutionBench.class.getDeclaredMethods()) {
            if (Modifier.isPublic(method.getModifiers())) {
                face.add(method.getName());
            }
        }
        classes.add(ConvolutionBench.class);
        for (Class<?> inside : classes) {
            int fields = 0;
            for (Field field : inside.getDeclaredFields()) {
                fields += Modifier.isStatic(field.getModifiers()) ? 0 : 1;
                if (Modifier.isStatic(field.getModifiers()) && !Modifier.isFinal(field.getModifiers())) {
                    fault("static state: " + field);
                }
            }
            if (fields > 20) {
                fault("too many fields in " + inside);
            }
            for (Method method : inside.getDeclaredMethods()) {
                boolean isFace = inside == ConvolutionBench.class && Modifier.isPublic(method.getModifiers());
                if (!isFace && face.contains(method.getName())) {
                    fault("the name of a public method: " + method);
                }
                if (method.getParameterCount() > 7) {
                    fault("too many parameters: " + method);
                }
            }
        }
    }

    private static List<String> source() {
        try {
            return Files.readAllLines(Path.of("src/main/java/ConvolutionBench.java"));
        } catch (java.io.IOException e) {
            throw new IllegalStateException("cannot read the program", e);
        }
    }
}
