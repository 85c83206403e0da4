import java.lang.reflect.Constructor;
import java.lang.reflect.Field;
import java.lang.reflect.Method;
import java.lang.reflect.Modifier;
import java.nio.file.Files;
import java.nio.file.Path;
import java.util.ArrayList;
import java.util.Collections;
import java.util.List;

/** The document's face, read from the document itself, and promise 1. */
final class FaceTest extends Suite {
    @Override
    void run() {
        test("the face has the document's methods and no others", this::methodsAreTheDocuments);
        test("the constants", () -> {
            due(-1, () -> ConvolutionBench.NONE);
            due(-2, () -> ConvolutionBench.SYNTAX_ERROR);
            due(-3, () -> ConvolutionBench.VALUE_ERROR);
            due(-4, () -> ConvolutionBench.TOO_MANY);
        });
        test("promise 1: a new bench is empty", () -> {
            ConvolutionBench x = new ConvolutionBench();
            due(0, x::primes);
            for (int slot = 0; slot < 4; slot++) {
                int at = slot;
                due(0, () -> x.length(at));
            }
            due(NONE, x::errorPosition);
            refused(x, STATE, () -> x.product(0), x::undo);
            due(20, () -> x.feed(0, 0, 0, 0, 0));
            refused(x, INDEX, () -> x.prime(0, 0), () -> x.length(4), () -> x.length(-1));
        });
        test("promise 1: two benches have nothing in common", () -> {
            ConvolutionBench x = withPrimes(17);
            ConvolutionBench y = new ConvolutionBench();
            x.append(0, 5);
            due(0, y::primes);
            due(0, () -> y.length(0));
            refused(y, STATE, y::undo);
        });
    }

    private void methodsAreTheDocuments() {
        List<String> wanted = new ArrayList<>();
        List<String> found = new ArrayList<>();
        for (String line : documentLines()) {
            if (line.startsWith("    public ") && line.contains("(") && !line.contains("ConvolutionBench()")) {
                wanted.add(line.trim().replaceAll("(int|long) \\w+([,)])", "$1$2").replace(";", ""));
            }
        }
        for (Method method : ConvolutionBench.class.getDeclaredMethods()) {
            if (!Modifier.isPrivate(method.getModifiers())) {
                found.add(signature(method));
            }
        }
        Collections.sort(wanted);
        Collections.sort(found);
        if (wanted.size() != 40) {
            fault("the document shows " + wanted.size() + " methods, not 40");
        }
        if (!wanted.equals(found)) {
            fault("the methods are\n" + found + "\nand not\n" + wanted);
        }
        membersAreClosed();
    }

    private void membersAreClosed() {
        Constructor<?>[] made = ConvolutionBench.class.getDeclaredConstructors();
        if (made.length != 1 || !Modifier.isPublic(made[0].getModifiers())) {
            fault("there must be one public constructor");
        }
        for (Field field : ConvolutionBench.class.getDeclaredFields()) {
            boolean isConstant = Modifier.isPublic(field.getModifiers())
                    && List.of("NONE", "SYNTAX_ERROR", "VALUE_ERROR", "TOO_MANY").contains(field.getName());
            if (!isConstant && !Modifier.isPrivate(field.getModifiers())) {
                fault("the field " + field.getName() + " is not private");
            }
        }
    }

    private static String signature(Method method) {
        StringBuilder text = new StringBuilder("public ");
        text.append(method.getReturnType().getName()).append(' ').append(method.getName()).append('(');
        for (Class<?> type : method.getParameterTypes()) {
            text.append(text.charAt(text.length() - 1) == '(' ? "" : ", ").append(type.getName());
        }
        text.append(')');
        for (Class<?> type : method.getExceptionTypes()) {
            text.append(text.indexOf("throws") < 0 ? " throws " : ", ").append(type.getSimpleName());
        }
        return text.toString();
    }

    private static List<String> documentLines() {
        try {
            return Files.readAllLines(Path.of("../shared/DOC.md"));
        } catch (java.io.IOException e) {
            throw new IllegalStateException("cannot read the document", e);
        }
    }
}
