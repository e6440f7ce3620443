import java.lang.reflect.Method;
import java.lang.reflect.Modifier;
import java.nio.charset.StandardCharsets;
import java.nio.file.Files;
import java.nio.file.Paths;
import java.util.Arrays;
import java.util.regex.Matcher;
import java.util.regex.Pattern;

/** README.md says how the class is used: its run of calls answers as it says, and no call of the face is left out. */
public final class ReadmeTest {
    private static final Pattern BLOCK = Pattern.compile("(?s)```java\n(.*?)```");
    private static final Pattern GROUP = Pattern.compile("String group = \"([^\"]*)\";");
    private static final Pattern CALL = Pattern.compile("x\\.(\\w+)\\(([-0-9, ]*)\\); +// (-?\\d+).*");
    private static final int LEAST_CALLS = 20;
    private static int wrong = 0;

    private static void need(boolean holds, String what) {
        if (holds) return;
        wrong++;
        System.out.println(what);
    }

    public static void main(String[] args) throws Exception {
        String readme = new String(Files.readAllBytes(Paths.get("README.md")), StandardCharsets.UTF_8);
        Matcher block = BLOCK.matcher(readme);
        need(block.find(), "README.md has no run of calls");
        if (wrong == 0) followRun(block.group(1));
        namesEveryCall(readme);
        if (wrong != 0) System.exit(1);
        System.out.println("README.md says what is so");
    }

    private static void followRun(String run) throws Exception {
        SubgroupWriter x = new SubgroupWriter();
        Matcher group = GROUP.matcher(run);
        need(group.find(), "README.md tells no group");
        if (wrong != 0) return;
        String text = group.group(1);
        x.text(0, text.length());
        for (int i = 0; i < text.length(); i++) x.put(0, i, text.charAt(i));
        int calls = 0;
        for (String line : run.split("\n")) {
            Matcher call = CALL.matcher(line);
            if (call.matches()) {
                calls++;
                long got = ask(x, call.group(1), call.group(2));
                need(got == Long.parseLong(call.group(3)), "README.md: " + line + " .. answered " + got);
            } else {
                need(!line.contains("//"), "README.md: not to be followed: " + line);
            }
        }
        need(calls >= LEAST_CALLS, "README.md has a run of " + calls + " calls alone");
    }

    private static long ask(SubgroupWriter x, String name, String values) throws Exception {
        String[] told = values.isBlank() ? new String[0] : values.trim().split(" *, *");
        Object[] numbers = new Object[told.length];
        for (int k = 0; k < told.length; k++) numbers[k] = Integer.parseInt(told[k]);
        Class<?>[] types = new Class<?>[told.length];
        Arrays.fill(types, int.class);
        return ((Number) SubgroupWriter.class.getMethod(name, types).invoke(x, numbers)).longValue();
    }

    private static void namesEveryCall(String readme) {
        for (Method m : SubgroupWriter.class.getDeclaredMethods()) {
            if (!Modifier.isPublic(m.getModifiers())) continue;
            StringBuilder call = new StringBuilder("`" + m.getName() + "\\(");
            for (int k = 0; k < m.getParameterCount(); k++) call.append(k == 0 ? "\\w+" : ", \\w+");
            Pattern named = Pattern.compile(call.append("\\)`").toString());
            need(named.matcher(readme).find(), "README.md does not name " + m.getName() + "()");
        }
    }
}
