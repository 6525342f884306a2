import java.io.IOException;
import java.lang.reflect.Method;
import java.nio.file.Files;
import java.nio.file.Path;
import java.util.regex.Matcher;
import java.util.regex.Pattern;

/** The example of README.md: each call there has the answer that its comment begins with. */
public final class OneDoorReadme {
    private static final Pattern TEXT = Pattern.compile("for \\(char c : \"([^\"]*)\".*");
    private static final Pattern CALL = Pattern.compile("x\\.(\\w+)\\(([-0-9, ]*)\\); *// (-?[0-9]+).*");

    private static long ask(OneDoor x, String name, String numbers) throws ReflectiveOperationException {
        String[] parts = numbers.isEmpty() ? new String[0] : numbers.split(", ");
        Object[] given = new Object[parts.length];
        for (int i = 0; i < parts.length; i++) given[i] = Integer.parseInt(parts[i]);
        for (Method m : OneDoor.class.getMethods()) {
            if (m.getName().equals(name)) return ((Number) m.invoke(x, given)).longValue();
        }
        throw new NoSuchMethodException(name);
    }

    private static String example() throws IOException {
        String page = Files.readString(Path.of("README.md"));
        int from = page.indexOf("```java") + 8;
        return page.substring(from, page.indexOf("```", from));
    }

    public static void main(String[] args) throws Exception {
        OneDoor x = new OneDoor();
        int wrong = 0, calls = 0;
        for (String line : example().split("\n")) {
            Matcher text = TEXT.matcher(line);
            Matcher call = CALL.matcher(line);
            if (text.matches()) {
                for (char c : text.group(1).toCharArray()) x.type(c);
            } else if (call.matches()) {
                calls++;
                long got = ask(x, call.group(1), call.group(2));
                if (got != Long.parseLong(call.group(3))) {
                    wrong++;
                    System.out.println("README.md: " + line + " answered " + got);
                }
            } else if (!line.equals("OneDoor x = new OneDoor();")) {
                wrong++;
                System.out.println("README.md: " + line + " is not looked at");
            }
        }
        if (calls == 0) {
            wrong++;
            System.out.println("README.md has no example");
        }
        System.out.println(calls + " calls of README.md, " + wrong + " not as due");
        if (wrong != 0) System.exit(1);
    }
}
