import java.io.IOException;
import java.lang.reflect.Field;
import java.lang.reflect.Method;
import java.lang.reflect.Modifier;
import java.nio.file.Files;
import java.nio.file.Path;
import java.util.ArrayList;
import java.util.List;
import java.util.Set;
import java.util.TreeSet;
import java.util.regex.Matcher;
import java.util.regex.Pattern;

/** Some rules of ../shared/LANGUAGE.md. Its argument is the folder of the project (the present one without it). */
public final class LanguageTest {
    private static final Due DUE = new Due("LanguageTest");
    private static final Set<String> CONSTANTS = Set.of("BAD", "NO", "FULL", "NONE", "SPENT");
    private static final Set<String> METHODS = Set.of("act", "tear", "means", "moment", "call", "clear", "manner", "late",
        "model", "told", "begin", "step", "may", "run", "word", "local", "node", "thread", "answer", "epoch", "agrees",
        "keeps", "explore", "explored", "first", "walk", "next", "go", "answers");
    private static final String[] FORBIDDEN = {"throw", "throws", "try", "catch", "finally", "synchronized", "assert",
        "instanceof", "volatile", "native", "Object", "Thread", "Random", "Scanner", "File", "Class", "equals", "hashCode",
        "toString", "package", "protected", "var", "yield"};
    private static final Set<String> LIBRARY = Set.of("Arrays.fill", "Math.max", "Math.min", "System.arraycopy");

    public static void main(String[] args) throws IOException {
        Path file = Path.of(args.length > 0 ? args[0] : ".", "src", "main", "java", "FreeShelf.java");
        String text = Files.readString(file);
        plainSigns(text);
        String code = text.replaceAll("(?s)/\\*.*?\\*/", "").replaceAll("//[^\n]*", "");
        words(code);
        lengths(text.split("\n", -1));
        face();
        List<Class<?>> classes = new ArrayList<>(List.of(FreeShelf.class.getDeclaredClasses()));
        for (Class<?> inside : classes) {
            DUE.is("rule 2: static, " + inside.getName(), Modifier.isStatic(inside.getModifiers()) ? 1 : 0, 1);
            DUE.is("rule 1: not public, " + inside.getName(), Modifier.isPublic(inside.getModifiers()) ? 1 : 0, 0);
        }
        classes.add(FreeShelf.class);
        DUE.is("rule 11: classes", classes.size() <= 12 ? 1 : 0, 1);
        for (Class<?> one : classes) members(one);
        DUE.close();
    }

    private static void plainSigns(String text) {
        for (int i = 0; i < text.length(); i++) {
            if (text.charAt(i) > 126) DUE.is("a sign that is not plain, at " + i, text.charAt(i), 0);
        }
    }

    private static void words(String code) {
        for (String word : FORBIDDEN) {
            DUE.is("rules 3 and 6: " + word, Pattern.compile("\\b" + word + "\\b").matcher(code).find() ? 1 : 0, 0);
        }
        DUE.is("rule 2: no lambda", code.contains("->") ? 1 : 0, 0);
        DUE.is("rule 2: no method reference", code.contains("::") ? 1 : 0, 0);
        DUE.is("rule 9: no loop without an end", Pattern.compile("while \\(true\\)|for \\(;;\\)").matcher(code).find() ? 1 : 0, 0);
        Matcher imports = Pattern.compile("import ([^;]+);").matcher(code);
        while (imports.find()) DUE.is("rule 4: " + imports.group(1), imports.group(1).equals("java.util.Arrays") ? 1 : 0, 1);
        Matcher library = Pattern.compile("\\b(Arrays|Math|System|Integer|Long)\\.\\w+").matcher(code);
        while (library.find()) DUE.is("rule 4: " + library.group(), LIBRARY.contains(library.group()) ? 1 : 0, 1);
        Matcher made = Pattern.compile("new (\\w+)").matcher(code);
        Set<String> kinds = Set.of("int", "boolean", "Program", "Machine", "Judge", "Exploration", "Cycles");
        while (made.find()) DUE.is("rule 12: new " + made.group(1), kinds.contains(made.group(1)) ? 1 : 0, 1);
    }

    private static void lengths(String[] lines) {
        int start = -1;
        for (int i = 0; i < lines.length; i++) {
            if (lines[i].length() > 120) DUE.is("a long line " + (i + 1), lines[i].length(), 120);
            if (lines[i].matches(" {4}( {4})?\\w.*\\) \\{")) start = i;
            if (lines[i].matches(" {4}( {4})?\\}") && start >= 0) {
                if (i - start + 1 > 60) DUE.is("rule 11: a long method at " + (start + 1), i - start + 1, 60);
                start = -1;
            }
        }
    }

    private static void face() {
        Set<String> methods = new TreeSet<>();
        for (Method method : FreeShelf.class.getDeclaredMethods()) {
            boolean open = Modifier.isPublic(method.getModifiers());
            boolean closed = Modifier.isPrivate(method.getModifiers());
            DUE.is("rule 1: public or private, " + method.getName(), open || closed ? 1 : 0, 1);
            if (open) methods.add(method.getName());
        }
        DUE.is("rule 1: the public methods", methods.equals(METHODS) ? 1 : 0, 1);
        for (Field field : FreeShelf.class.getDeclaredFields()) {
            boolean open = CONSTANTS.contains(field.getName());
            DUE.is("rule 1: " + field.getName(), Modifier.isPublic(field.getModifiers()) ? 1 : 0, open ? 1 : 0);
            if (!open) DUE.is("rule 1: " + field.getName(), Modifier.isPrivate(field.getModifiers()) ? 1 : 0, 1);
        }
        DUE.is("rule 1: one constructor", FreeShelf.class.getDeclaredConstructors().length, 1);
        DUE.is("rule 1: final", Modifier.isFinal(FreeShelf.class.getModifiers()) ? 1 : 0, 1);
    }

    private static void members(Class<?> one) {
        int fields = 0;
        for (Field field : one.getDeclaredFields()) {
            boolean fixed = Modifier.isStatic(field.getModifiers());
            if (!fixed) fields++;
            if (fixed) DUE.is("rule 5: final, " + field, Modifier.isFinal(field.getModifiers()) ? 1 : 0, 1);
        }
        DUE.is("rule 11: fields of " + one.getName(), fields <= 20 ? 1 : 0, 1);
        for (Method method : one.getDeclaredMethods()) {
            DUE.is("rule 11: parameters of " + method, method.getParameterCount() <= 7 ? 1 : 0, 1);
            boolean named = one != FreeShelf.class && METHODS.contains(method.getName());
            DUE.is("rule 1: the name of a public method, " + method, named ? 1 : 0, 0);
        }
    }
}
