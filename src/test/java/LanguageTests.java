import java.io.IOException;
import java.lang.reflect.Constructor;
import java.lang.reflect.Field;
import java.lang.reflect.Method;
import java.lang.reflect.Modifier;
import java.nio.file.Files;
import java.nio.file.Path;
import java.util.Arrays;
import java.util.Set;
import java.util.TreeSet;
import java.util.regex.Matcher;
import java.util.regex.Pattern;

/** The rules of ../shared/LANGUAGE.md that a program can look at: the face, the words and the sizes. */
public final class LanguageTests {
    private static final Path SOURCE = Path.of("src/main/java/TandemExchange.java");

    // The methods of the document's face, each with its kinds of arguments.
    private static final Set<String> FACE = Set.of(
            "append int", "clearText", "errorPosition", "load", "about int", "member int int", "both int int int",
            "join int int int", "leave int", "want int int", "test int int int", "pair int int", "part int", "match",
            "settle int", "week int", "undo", "blocking int boolean", "bestPartner int boolean", "best int",
            "missedMost", "ahead int int int int", "levelAfter int int", "partsAfter int int", "runScript int long",
            "simulate long int", "save int", "restore int");

    private static final String[] WORDS_NOT_ALLOWED = {
        "import", "package", "try", "catch", "finally", "synchronized", "assert", "protected", "volatile", "native",
        "transient", "equals", "hashCode", "toString", "getMessage", "System\\.(?!arraycopy)", "->", "::",
        "\\w+Exact\\b", "Thread", "Random"};

    private static final Check check = new Check();

    public static void main(String[] args) throws IOException {
        face();
        classesInside();
        String code = withoutComments(Files.readString(SOURCE));
        words(code);
        lengths(code);
        check.end();
    }

    private static void face() {
        check.part("rule 1");
        Set<String> found = new TreeSet<>();
        Set<String> publicNames = new TreeSet<>();
        for (Method method : TandemExchange.class.getDeclaredMethods()) {
            if (Modifier.isPublic(method.getModifiers())) {
                StringBuilder text = new StringBuilder(method.getName());
                for (Class<?> kind : method.getParameterTypes()) {
                    text.append(' ').append(kind.getName());
                }
                found.add(text.toString());
                publicNames.add(method.getName());
                check.that(method.getReturnType() == int.class, method + " returns no int");
            }
        }
        check.that(found.equals(FACE), "the public methods are " + found);
        for (Method method : TandemExchange.class.getDeclaredMethods()) {
            boolean hidden = Modifier.isPrivate(method.getModifiers()) || method.isSynthetic();
            check.that(hidden || Modifier.isPublic(method.getModifiers()), method + " can be seen in the package");
            check.that(!hidden || !publicNames.contains(method.getName()), method + " bears a public name");
        }
        for (Field field : TandemExchange.class.getDeclaredFields()) {
            int marks = field.getModifiers();
            check.that(field.getName().equals("NONE") ? Modifier.isPublic(marks) : Modifier.isPrivate(marks), "" + field);
            check.that(!Modifier.isStatic(marks) || Modifier.isFinal(marks), field + " is static and not final");
        }
        Constructor<?>[] constructors = TandemExchange.class.getDeclaredConstructors();
        check.that(constructors.length == 1 && Modifier.isPublic(constructors[0].getModifiers())
                && constructors[0].getParameterCount() == 0, "the constructors are " + Arrays.toString(constructors));
        check.that(Modifier.isFinal(TandemExchange.class.getModifiers()), "the class is not final");
    }

    private static void classesInside() {
        check.part("rules 1 and 11");
        Class<?>[] classes = TandemExchange.class.getDeclaredClasses();
        check.that(classes.length < 12, "there are " + classes.length + " classes inside");
        Set<String> publicNames = new TreeSet<>();
        FACE.forEach(call -> publicNames.add(call.split(" ")[0]));
        for (Class<?> inside : classes) {
            int marks = inside.getModifiers();
            check.that(Modifier.isStatic(marks) && !Modifier.isPublic(marks) && !Modifier.isProtected(marks), "" + inside);
            for (Method method : inside.getDeclaredMethods()) {
                check.that(!publicNames.contains(method.getName()), method + " bears a public name");
                check.that(method.getParameterCount() <= 7, method + " takes too many arguments");
            }
            long fields = Arrays.stream(inside.getDeclaredFields()).filter(f -> !Modifier.isStatic(f.getModifiers())).count();
            check.that(fields <= 20, inside + " has " + fields + " fields");
        }
    }

    private static String withoutComments(String source) {
        return source.replaceAll("(?s)/\\*.*?\\*/", "").replaceAll("//[^\n]*", "").replaceAll("\"[^\"\n]*\"", "\"\"");
    }

    private static void words(String code) {
        check.part("rules 3, 4, 6, 10 and 13");
        for (String word : WORDS_NOT_ALLOWED) {
            boolean plain = word.matches("\\w+");
            Matcher matcher = Pattern.compile(plain ? "\\b" + word + "\\b" : word).matcher(code);
            check.that(!matcher.find(), "the code holds " + word);
        }
        Matcher thrown = Pattern.compile("throw (.*)").matcher(code);
        while (thrown.find()) {
            String what = thrown.group(1);
            check.that(what.matches("new (IllegalState|IllegalArgument|IndexOutOfBounds)Exception\\(\"\"\\);"), what);
        }
    }

    private static void lengths(String code) {
        check.part("rule 11");
        int start = -1;
        String[] lines = code.split("\n");
        for (int i = 0; i < lines.length; i++) {
            if (lines[i].matches("( {4}| {8})\\S.*\\) (throws .*)?\\{") && !lines[i].contains(" if (")) {
                start = i;
            }
            if (start >= 0 && lines[i].matches(" {4}(    )?\\}")) {
                check.that(i - start < 60, "too long: " + lines[start].trim());
                start = -1;
            }
        }
    }
}
