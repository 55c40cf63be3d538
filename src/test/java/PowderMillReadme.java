import java.io.IOException;
import java.lang.reflect.Method;
import java.nio.file.Files;
import java.nio.file.Path;
import java.util.regex.Matcher;
import java.util.regex.Pattern;

/** The calls of README.md's example, done in their order: each must answer what its comment begins with. */
public final class PowderMillReadme {
    private static final Pattern ROW = Pattern.compile("mill\\.(\\w+)\\(([^)]*)\\);\\s*// (-?\\d+): .*");

    public static void main(String[] args) throws IOException, ReflectiveOperationException {
        PowderMill mill = new PowderMill();
        int calls = 0;
        int wrong = 0;
        for (String line : Files.readAllLines(Path.of("README.md"))) {
            if (!line.startsWith("mill.")) {
                continue;
            }
            calls++;
            String answer = answerOtherThanDue(mill, line);
            if (answer != null) {
                wrong++;
                System.out.println("README.md: " + line + "\n  " + answer);
            }
        }
        if (calls == 0) {
            wrong++;
            System.out.println("README.md has no example");
        }
        System.out.println(calls + " calls of README.md: " + (wrong == 0 ? "all answers are as due" : wrong + " are not as due"));
        if (wrong != 0) {
            System.exit(1);
        }
    }

    /** Answers null if the call answers what is due. */
    private static String answerOtherThanDue(PowderMill mill, String line) throws ReflectiveOperationException {
        Matcher row = ROW.matcher(line);
        if (!row.matches()) {
            return "is no call with its answer";
        }
        Method method = methodNamed(row.group(1));
        String[] texts = row.group(2).isEmpty() ? new String[0] : row.group(2).split(", ");
        if (method == null || method.getParameterCount() != texts.length) {
            return "is no call of the class";
        }
        Object[] values = new Object[texts.length];
        for (int i = 0; i < texts.length; i++) {
            boolean isBoolean = method.getParameterTypes()[i] == boolean.class;
            values[i] = isBoolean ? (Object) Boolean.valueOf(texts[i]) : (Object) Integer.valueOf(texts[i]);
        }
        String got = String.valueOf(method.invoke(mill, values));
        return got.equals(row.group(3)) ? null : "answered " + got;
    }

    private static Method methodNamed(String name) {
        for (Method method : PowderMill.class.getDeclaredMethods()) {
            if (method.getName().equals(name)) {
                return method;
            }
        }
        return null;
    }
}
