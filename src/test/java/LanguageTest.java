import java.lang.reflect.Field;
import java.lang.reflect.Method;
import java.lang.reflect.Modifier;
import java.nio.charset.StandardCharsets;
import java.nio.file.Files;
import java.nio.file.Paths;
import java.util.Arrays;
import java.util.HashSet;
import java.util.List;
import java.util.Set;
import java.util.TreeSet;
import java.util.regex.Matcher;
import java.util.regex.Pattern;

/** The public face, and those rules of LANGUAGE.md that can be looked at from outside or in the source's words. */
public final class LanguageTest {
    private static final String SOURCE = "src/main/java/SubgroupWriter.java";
    private static final String FACE = "int row(int,int);int lay(int,int,int);int at(int,int);int tear(int);"
            + "int copy(int,int,int,int,int);int mean(int);int text(int,int);int put(int,int,int);int fault(int);"
            + "int group(int);int goes(int,int);int reached(int,int);int way(int,int);int edge(int,int);int mark(int,int);"
            + "int written(int,int,int);int spelt(int,int);int rule(int,int);int often(int,int);int alike(int,int);"
            + "int order(int);int turn(int);int over(int);int join(int,int);int cut(int);int solve(int,int);int shorten();"
            + "int undo(int);int keep(int);int on(int);int lots(int,int);int rank(int);int ways(int);int odds(int,int,int);"
            + "int mid(int,int);int asked();long upper();long lower();int count(int);int finding();int findings(int);"
            + "long digest();";
    private static final List<String> BARRED = Arrays.asList("throw", "throws", "try", "catch", "synchronized", "assert",
            "var", "Object", "Exception", "Math\\.\\w+Exact", "hashCode", "toString", "Thread", "System\\.(?!arraycopy)\\w+",
            "Random", "protected", "volatile", "native", "java\\.(?!util\\.Arrays;)\\w+");
    private static int wrong = 0;

    private static void need(boolean holds, String what) {
        if (holds) return;
        wrong++;
        System.out.println(what);
    }

    public static void main(String[] args) throws Exception {
        face();
        constants();
        for (Class<?> inner : SubgroupWriter.class.getDeclaredClasses()) nested(inner);
        need(SubgroupWriter.class.getDeclaredClasses().length < 12, "more than twelve classes");
        fieldsOf(SubgroupWriter.class);
        words();
        if (wrong != 0) System.exit(1);
        System.out.println("face and language are as told");
    }

    private static void face() {
        need(Modifier.isFinal(SubgroupWriter.class.getModifiers()), "the class is not final");
        Set<String> due = new TreeSet<>(Arrays.asList(FACE.split(";")));
        Set<String> open = new TreeSet<>();
        Set<String> names = new HashSet<>();
        for (Method m : SubgroupWriter.class.getDeclaredMethods()) {
            if (Modifier.isPrivate(m.getModifiers())) continue;
            need(m.getModifiers() == Modifier.PUBLIC, m + " is more than public");
            StringBuilder told = new StringBuilder(m.getReturnType() + " " + m.getName() + "(");
            for (Class<?> p : m.getParameterTypes()) told.append(told.charAt(told.length() - 1) == '(' ? "" : ",").append(p);
            open.add(told.append(")").toString());
            names.add(m.getName());
        }
        need(due.equals(open), "the face is " + open);
        for (Method m : SubgroupWriter.class.getDeclaredMethods()) privateName(m, names);
        for (Class<?> inner : SubgroupWriter.class.getDeclaredClasses()) {
            for (Method m : inner.getDeclaredMethods()) privateName(m, names);
        }
        need(SubgroupWriter.class.getDeclaredConstructors().length == 1, "more than one constructor");
    }

    private static void privateName(Method m, Set<String> names) {
        need(m.getParameterCount() <= 7, m + " takes too much");
        boolean isFace = m.getDeclaringClass() == SubgroupWriter.class && Modifier.isPublic(m.getModifiers());
        need(isFace || !names.contains(m.getName()), m + " bears a public name");
    }

    private static void constants() throws Exception {
        String[] names = {"BAD", "FULL", "FINDING", "STATE", "SPENT", "NONE"};
        int[] values = {-1, -2, -3, -4, -6, -9};
        for (int k = 0; k < names.length; k++) {
            need(SubgroupWriter.class.getField(names[k]).getInt(null) == values[k], names[k] + " is another number");
        }
        need(SubgroupWriter.class.getFields().length == names.length, "more public constants");
    }

    private static void nested(Class<?> inner) {
        need(Modifier.isStatic(inner.getModifiers()), inner + " is not static");
        need(!Modifier.isPublic(inner.getModifiers()), inner + " is public");
        fieldsOf(inner);
    }

    private static void fieldsOf(Class<?> of) {
        int own = 0;
        for (Field f : of.getDeclaredFields()) {
            int m = f.getModifiers();
            if (!Modifier.isStatic(m)) own++;
            need(!Modifier.isStatic(m) || Modifier.isFinal(m), f + " is static, not final");
            need(of != SubgroupWriter.class || Modifier.isPrivate(m) || Modifier.isPublic(m), f + " can be seen");
        }
        need(own <= 20, of + " has " + own + " fields");
    }

    private static void words() throws Exception {
        String source = new String(Files.readAllBytes(Paths.get(SOURCE)), StandardCharsets.UTF_8);
        for (int k = 0; k < source.length(); k++) need(source.charAt(k) < 128, "a sign above 127 at " + k);
        String code = source.replaceAll("(?s)/\\*.*?\\*/", " ").replaceAll("//[^\n]*", " ");
        for (String word : BARRED) {
            Matcher found = Pattern.compile("\\b" + word + "\\b").matcher(code);
            need(!found.find(), "the source says " + word);
        }
        need(!code.contains("->") && !code.contains("::") && !code.contains("package "), "a lambda, a reference, a package");
        lengths(code.split("\n"));
    }

    /** A method's head and end stand at the same depth, 4 or 8. */
    private static void lengths(String[] lines) {
        Pattern head = Pattern.compile("(    |        )(?!if|for|while|switch|else|do|case)[A-Za-z][^;=]*\\) \\{");
        for (int k = 0; k < lines.length; k++) {
            Matcher found = head.matcher(lines[k]);
            if (!found.matches()) continue;
            int end = k;
            while (end < lines.length && !lines[end].equals(found.group(1) + "}")) end++;
            need(end - k <= 60, "a long method at line " + (k + 1));
        }
    }
}
