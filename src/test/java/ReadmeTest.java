import java.lang.reflect.Method;
import java.nio.file.Files;
import java.nio.file.Path;
import java.util.Arrays;
import java.util.regex.Matcher;
import java.util.regex.Pattern;

/** That the calls of README.md's example answer, one after the other, what stands beside them. */
public final class ReadmeTest {
    public static void main(String[] args) throws Exception {
        Check check = new Check();
        StraySheep x = new StraySheep();
        for (String line : Files.readString(Path.of("README.md")).split("\n")) {
            if (!line.startsWith("x.")) {
                continue;
            }
            Matcher m = Pattern.compile("^x\\.(\\w+)\\(([^)]*)\\); +// (-?\\d+)( .*)?$").matcher(line);
            boolean isCall = m.find();
            check.yes("README.md: a call and its answer: " + line, isCall);
            if (isCall) {
                check.due("README.md: " + line, answer(x, m.group(1), m.group(2)), Long.parseLong(m.group(3)));
            }
        }
        check.end();
    }

    private static long answer(StraySheep x, String name, String numbers) throws Exception {
        String[] parts = numbers.isEmpty() ? new String[0] : numbers.split(", ");
        Object[] given = new Object[parts.length];
        for (int i = 0; i < parts.length; i++) {
            given[i] = Integer.decode(parts[i]);
        }
        Class<?>[] types = new Class<?>[parts.length];
        Arrays.fill(types, int.class);
        Method call = StraySheep.class.getMethod(name, types);
        return ((Number) call.invoke(x, given)).longValue();
    }
}
