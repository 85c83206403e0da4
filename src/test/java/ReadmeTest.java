import java.lang.reflect.InvocationTargetException;
import java.lang.reflect.Method;
import java.lang.reflect.Modifier;
import java.nio.file.Files;
import java.nio.file.Path;
import java.util.ArrayList;
import java.util.HashMap;
import java.util.List;
import java.util.Map;
import java.util.TreeSet;
import java.util.regex.Matcher;
import java.util.regex.Pattern;

/** Makes the calls of README.md and compares what they answer with what stands there. */
final class ReadmeTest extends Suite {
    private static final String NEW = "ConvolutionBench bench = new ConvolutionBench();";
    private static final Pattern CALL = Pattern.compile("bench\\.(\\w+)\\((.*?)\\); *// ([-\\w]+)(:.*)?");
    private static final Map<String, String> CONSTANTS = Map.of(
            "NONE", "-1", "SYNTAX_ERROR", "-2", "VALUE_ERROR", "-3", "TOO_MANY", "-4");

    private final Map<String, Method> methods = new HashMap<>();

    @Override
    void run() {
        for (Method method : ConvolutionBench.class.getDeclaredMethods()) {
            if (Modifier.isPublic(method.getModifiers())) {
                methods.put(method.getName(), method);
            }
        }
        for (List<String> block : blocks()) {
            if (block.get(0).equals(NEW)) {
                test("README.md: the block with " + block.get(1), () -> callsAnswer(block));
            }
        }
        test("README.md: each method stands in a call", this::eachMethodIsCalled);
        test("README.md: the functions that feed a text are those of the tests", this::functionsAreTested);
        test("README.md: how to run the tests", () -> {
            if (!readme().contains(".ci/run")) {
                fault("README.md does not name .ci/run");
            }
        });
    }

    private void callsAnswer(List<String> block) {
        ConvolutionBench bench = new ConvolutionBench();
        for (String line : block.subList(1, block.size())) {
            Matcher call = CALL.matcher(line);
            if (!call.matches()) {
                fault("no call with an answer: " + line);
                continue;
            }
            String want = CONSTANTS.getOrDefault(call.group(3), call.group(3));
            String got = answerOf(bench, call.group(1), call.group(2));
            if (!got.equals(want)) {
                fault(line + " answered " + got);
            }
        }
    }

    private String answerOf(ConvolutionBench bench, String name, String listed) {
        if (!methods.containsKey(name)) {
            return "no such method";
        }
        List<Object> arguments = new ArrayList<>();
        for (String argument : listed.isEmpty() ? new String[0] : listed.split(", ")) {
            arguments.add(Integer.decode(argument));
        }
        try {
            return String.valueOf(methods.get(name).invoke(bench, arguments.toArray()));
        } catch (InvocationTargetException e) {
            return e.getCause().getClass().getSimpleName();
        } catch (IllegalAccessException | IllegalArgumentException e) {
            return "cannot be called: " + e.getMessage();
        }
    }

    private void eachMethodIsCalled() {
        TreeSet<String> missing = new TreeSet<>(methods.keySet());
        for (String line : readme().split("\n")) {
            Matcher call = CALL.matcher(line);
            if (call.matches()) {
                missing.remove(call.group(1));
            }
        }
        if (!missing.isEmpty()) {
            fault("not called: " + missing);
        }
    }

    private void functionsAreTested() {
        String suite = plain(read("src/test/java/Suite.java"));
        int functions = 0;
        for (List<String> block : blocks()) {
            if (!block.get(0).equals(NEW)) {
                for (String function : String.join("\n", block).split("\n\n")) {
                    functions++;
                    if (!suite.contains(plain(function))) {
                        fault("not in Suite.java: " + function);
                    }
                }
            }
        }
        if (functions != 3) {
            fault("found " + functions + " functions");
        }
    }

    /** The lines of each block of Java. */
    private static List<List<String>> blocks() {
        List<List<String>> blocks = new ArrayList<>();
        Matcher block = Pattern.compile("```java\n(.*?)\n```", Pattern.DOTALL).matcher(readme());
        while (block.find()) {
            blocks.add(List.of(block.group(1).split("\n")));
        }
        return blocks;
    }

    private static String plain(String code) {
        return code.replaceAll("\\s+", " ").trim();
    }

    private static String readme() {
        return read("README.md");
    }

    private static String read(String file) {
        try {
            return Files.readString(Path.of(file));
        } catch (java.io.IOException e) {
            throw new IllegalStateException("cannot read " + file, e);
        }
    }
}
