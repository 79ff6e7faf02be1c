import java.io.IOException;
import java.lang.reflect.Field;
import java.lang.reflect.Method;
import java.lang.reflect.Modifier;
import java.nio.file.Files;
import java.nio.file.Path;
import java.util.ArrayList;
import java.util.List;
import java.util.Set;
import java.util.TreeSet;
import java.util.regex.Matcher;
import java.util.regex.Pattern;

/** Those rules of ../shared/LANGUAGE.md that the source's words or the compiled classes can show. */
public final class LanguageTest {
    private static final Path SOURCE = Path.of("src/main/java/IcePads.java");
    private static final Pattern COMMENT = Pattern.compile("/\\*.*?\\*/|//[^\\n]*", Pattern.DOTALL);
    /** Rules 2, 4, 5, 6, 13: words and signs of what the rules leave out; the class needs no import at all. */
    private static final Pattern LEFT_OUT = Pattern.compile(
            "\\b(throw|throws|try|catch|finally|synchronized|volatile|assert|import|package|native|var|yield"
            + "|equals|hashCode|toString|\\w+Exact|System|Thread|Object|java|javax)\\b|->|::|@|\\bstatic\\s*\\{");

    public static void main(String[] args) throws IOException {
        wordsThatAreLeftOut();
        for (Class<?> each : classes()) {
            rule1And2Classes(each);
            rule5StaticFieldsAreFinal(each);
            rule11Fields(each);
            rule11Parameters(each);
        }
        rule1NoPrivateMethodBearsAPublicName();
        Checks.due("rule 11: classes, 12 at most", classes().size() <= 12 ? 1 : 0, 1);
        Checks.finish();
    }

    private static void wordsThatAreLeftOut() throws IOException {
        Set<String> found = new TreeSet<>();
        Matcher words = LEFT_OUT.matcher(COMMENT.matcher(Files.readString(SOURCE)).replaceAll(" "));
        while (words.find()) found.add(words.group());
        Checks.due("words that the rules leave out", found.toString(), "[]");
    }

    private static List<Class<?>> classes() {
        List<Class<?>> all = new ArrayList<>(List.of(IcePads.class));
        for (int i = 0; i < all.size(); i++) all.addAll(List.of(all.get(i).getDeclaredClasses()));
        return all;
    }

    private static void rule1And2Classes(Class<?> each) {
        if (each == IcePads.class) return;
        int modifiers = each.getModifiers();
        boolean hidden = !Modifier.isPublic(modifiers) && !Modifier.isProtected(modifiers);
        Checks.due("rules 1, 2: static and not public, " + each, hidden && Modifier.isStatic(modifiers) ? 1 : 0, 1);
    }

    private static void rule5StaticFieldsAreFinal(Class<?> each) {
        for (Field field : each.getDeclaredFields()) {
            int modifiers = field.getModifiers();
            if (field.isSynthetic() || !Modifier.isStatic(modifiers)) continue;
            Checks.due("rule 5: final, " + field, Modifier.isFinal(modifiers) ? 1 : 0, 1);
        }
    }

    private static void rule11Fields(Class<?> each) {
        int fields = 0;
        for (Field field : each.getDeclaredFields()) {
            if (!field.isSynthetic() && !Modifier.isStatic(field.getModifiers())) fields++;
        }
        Checks.due("rule 11: fields, 20 at most, " + each, fields <= 20 ? 1 : 0, 1);
    }

    /** fluid() has eight, as the document's face asks. */
    private static void rule11Parameters(Class<?> each) {
        for (Method method : each.getDeclaredMethods()) {
            if (method.isSynthetic() || Modifier.isPublic(method.getModifiers())) continue;
            Checks.due("rule 11: parameters, 7 at most, " + method, method.getParameterCount() <= 7 ? 1 : 0, 1);
        }
    }

    private static void rule1NoPrivateMethodBearsAPublicName() {
        Set<String> open = new TreeSet<>();
        for (Method method : IcePads.class.getDeclaredMethods()) {
            if (Modifier.isPublic(method.getModifiers())) open.add(method.getName());
        }
        Set<String> borne = new TreeSet<>();
        for (Class<?> each : classes()) {
            for (Method method : each.getDeclaredMethods()) {
                if (!Modifier.isPublic(method.getModifiers()) && open.contains(method.getName())) borne.add(method.toString());
            }
        }
        Checks.due("rule 1: other methods by a public one's name", borne.toString(), "[]");
    }
}
