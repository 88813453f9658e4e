import java.io.IOException;
import java.lang.reflect.Field;
import java.lang.reflect.Method;
import java.lang.reflect.Modifier;
import java.nio.file.Files;
import java.nio.file.Path;
import java.util.List;
import java.util.Set;
import java.util.TreeSet;

/** The rules of LANGUAGE.md that can be seen from the source and from the compiled classes. */
public final class LanguageTest {
    private static final String[] FORBIDDEN = {"->", "::", "finally", "synchronized", "assert ", "catch", "try",
        "static {", "Exact(", "Math.random", "System.out", "System.nanoTime", "currentTimeMillis", "getClass", "hashCode",
        "\" +", "+ \"", "toString", "instanceof"};

    public static void main(String[] args) throws IOException {
        List<String> lines = Files.readAllLines(Path.of("src/main/java/TaxFarm.java"));
        source(lines);
        lengths(lines);
        classes();
        Check.end();
    }

    private static void source(List<String> lines) {
        for (int i = 0; i < lines.size(); i++) {
            String line = lines.get(i);
            String where = "line " + (i + 1) + ": " + line;
            for (String word : FORBIDDEN) {
                Check.due(word + " in " + where, false, line.contains(word));
            }
            boolean foreign = line.startsWith("import") && !line.equals("import java.util.NoSuchElementException;");
            Check.due(where, false, foreign);
            boolean thrown = line.contains("throw new") && !line.contains("throw new NoSuchElementException(");
            Check.due(where, false, thrown);
        }
    }

    /** A method begins with a line that ends with ") {" at a class's depth, and ends with a brace there. */
    private static void lengths(List<String> lines) {
        for (int i = 0; i < lines.size(); i++) {
            String line = lines.get(i);
            int depth = line.length() - line.stripLeading().length();
            if ((depth == 4 || depth == 8) && line.endsWith(") {") && line.matches(" +[a-z]+ .*|    public .*")
                    && !line.matches(" +(if|for|while|switch|\\}).*")) {
                int end = i;
                while (!lines.get(end).equals(" ".repeat(depth) + "}")) {
                    end++;
                }
                Check.due("more than 60 lines: " + line, false, end - i > 60);
            }
        }
    }

    private static void classes() {
        Set<String> face = new TreeSet<>();
        for (Method method : TaxFarm.class.getMethods()) {
            if (method.getDeclaringClass() == TaxFarm.class) {
                face.add(method.getName());
            }
        }
        Class<?>[] inside = TaxFarm.class.getDeclaredClasses();
        Check.due("more than twelve classes", false, inside.length + 1 > 12);
        for (Class<?> one : inside) {
            Check.due(one + " is static", true, Modifier.isStatic(one.getModifiers()));
            for (Method method : one.getDeclaredMethods()) {
                Check.due(method + " is named as one of the face", false, face.contains(method.getName()));
                Check.due(method + " takes more than seven", false, method.getParameterCount() > 7);
            }
            fields(one);
        }
        fields(TaxFarm.class);
    }

    private static void fields(Class<?> one) {
        int count = 0;
        for (Field field : one.getDeclaredFields()) {
            boolean fixed = Modifier.isStatic(field.getModifiers());
            count += fixed ? 0 : 1;
            Check.due(field + " is static and not final", false, fixed && !Modifier.isFinal(field.getModifiers()));
        }
        Check.due(one + " has more than twenty fields", false, count > 20);
    }
}
