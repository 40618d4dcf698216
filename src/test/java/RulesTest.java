import java.lang.reflect.Constructor;
import java.lang.reflect.Field;
import java.lang.reflect.Method;
import java.lang.reflect.Modifier;
import java.nio.charset.StandardCharsets;
import java.nio.file.Files;
import java.nio.file.Path;
import java.util.ArrayList;
import java.util.Arrays;
import java.util.HashSet;
import java.util.List;
import java.util.Set;
import java.util.regex.Matcher;
import java.util.regex.Pattern;

/** The face is the document's, word for word, and the class keeps to LANGUAGE.md where a look tells. */
public final class RulesTest {
    private static final String I = " throws IndexOutOfBoundsException";
    private static final String A = " throws IllegalArgumentException";
    private static final String S = " throws IllegalStateException";
    private static final String IA = I + " IllegalArgumentException";
    private static final String IS = I + " IllegalStateException";
    private static final String AS = A + " IllegalStateException";
    private static final String IAS = IA + " IllegalStateException";

    private static final String[] FACE = {
        "int hold int int boolean" + I, "int person int" + AS, "int thing int int" + IAS,
        "int buy int" + IS, "int take int" + IS, "int ruin int" + IS,
        "int sell int int int int" + IAS, "int pay int" + IS, "int benchmark int" + A,
        "int lease int int int int" + IAS, "int end int boolean" + IS, "int venture" + S,
        "int join int int int int" + IAS, "int result int int int" + IAS,
        "int buyOut int int int int" + IAS, "int deposit int int" + IAS,
        "int share int int int" + A, "int firm int int int int int int" + AS,
        "int invest int" + AS, "int dividend int int" + IAS, "int pass int" + AS,
        "int ofPerson int int" + IA, "int ofThing int int" + IA, "int ofSale int int" + IA,
        "int ofLease int int" + IA, "int ofVenture int int int" + IA, "int ofFirm int int" + IA,
        "boolean allowed int int" + IA, "int house int" + A, "String tell int" + I,
        "int pillars int int" + I, "int best int boolean" + A, "int wouldShare int int" + IA,
        "boolean isSound", "long digest",
    };

    // Patterns of what LANGUAGE.md, or the task, rules out; comments and texts are left out before.
    private static final String[] FORBIDDEN = {
        "::", "\\bfinally\\b", "\\bsynchronized\\b", "\\bassert\\b", "^\\s*package\\b", "\\bprotected\\b",
        "\\bnative\\b", "\\bvolatile\\b", "^(?!\\s*(case|default)\\b).*->", "\\w+Exact\\(",
        "\\bSystem\\.(?!arraycopy)", "\\b(Thread|Runtime|Random|Scanner|Class|Objects|Exception)\\b",
        "\\b(Throwable|Error|NullPointerException|ClassCastException|StackOverflowError)\\b",
        "\\b(ArrayIndexOutOfBounds|NegativeArraySize|ArrayStore)Exception\\b",
        "\\b(hashCode|getMessage|toString|equals)\\(.*\\{\\s*$", "\\bwhile \\(true\\)", "for \\(;;\\)",
        "\\bString\\.", "\\bMath\\.(random|sqrt|pow|round|floor|ceil)\\(", "\\bstatic \\{",
        "^import (?!java\\.util\\.(ArrayList|List|Arrays|Iterator|NoSuchElementException);)",
    };

    public static void main(String[] args) throws Exception {
        face();
        membersBesideTheFace();
        insideClasses();
        words();
        Check.end();
    }

    private static String told(Method method) {
        StringBuilder line = new StringBuilder(method.getReturnType().getSimpleName());
        line.append(' ').append(method.getName());
        for (Class<?> type : method.getParameterTypes()) {
            line.append(' ').append(type.getSimpleName());
        }
        Class<?>[] thrown = method.getExceptionTypes();
        line.append(thrown.length > 0 ? " throws" : "");
        for (Class<?> type : thrown) {
            line.append(' ').append(type.getSimpleName());
        }
        return line.toString();
    }

    private static void face() {
        List<String> due = new ArrayList<>(Arrays.asList(FACE));
        for (Method method : RibafreeHouse.class.getDeclaredMethods()) {
            boolean isPublic = Modifier.isPublic(method.getModifiers());
            Check.is("of the face: " + told(method), due.remove(told(method)), isPublic);
        }
        Check.is("missing: " + due, due.isEmpty(), true);
        int modifiers = RibafreeHouse.class.getModifiers();
        Check.is("public", Modifier.isPublic(modifiers), true);
        Check.is("final", Modifier.isFinal(modifiers), true);
        Constructor<?>[] constructors = RibafreeHouse.class.getDeclaredConstructors();
        Check.is("constructors", constructors.length, 1);
        Check.is("parameters", constructors[0].getParameterCount(), 0);
    }

    private static void membersBesideTheFace() {
        Set<String> names = new HashSet<>();
        for (Method method : RibafreeHouse.class.getMethods()) {
            names.add(method.getName());
        }
        for (Method method : RibafreeHouse.class.getDeclaredMethods()) {
            int modifiers = method.getModifiers();
            if (!Modifier.isPublic(modifiers)) {
                Check.is(method.getName() + " is private", Modifier.isPrivate(modifiers), true);
                Check.is(method.getName() + " of both", names.contains(method.getName()), false);
            }
        }
        looksAtFields(RibafreeHouse.class);
        for (Field field : RibafreeHouse.class.getDeclaredFields()) {
            Check.is(field + " is private", Modifier.isPrivate(field.getModifiers()), true);
        }
    }

    private static void insideClasses() {
        Class<?>[] inside = RibafreeHouse.class.getDeclaredClasses();
        Check.is("at most twelve classes", inside.length <= 11, true);
        for (Class<?> each : inside) {
            Check.is(each + " is static", Modifier.isStatic(each.getModifiers()), true);
            Check.is(each + " is public", Modifier.isPublic(each.getModifiers()), false);
            looksAtFields(each);
            for (Method method : each.getDeclaredMethods()) {
                Check.is(method + " is short of seven", method.getParameterCount() <= 7, true);
            }
        }
    }

    private static void looksAtFields(Class<?> type) {
        int own = 0;
        for (Field field : type.getDeclaredFields()) {
            if (!Modifier.isStatic(field.getModifiers())) {
                own++;
            } else {
                Check.is(field + " is final", Modifier.isFinal(field.getModifiers()), true);
            }
        }
        Check.is(type + " has some twenty fields", own <= 20, true);
    }

    private static void words() throws Exception {
        Path path = Path.of("src", "main", "java", "RibafreeHouse.java");
        String text = Files.readString(path, StandardCharsets.UTF_8);
        for (int at = 0; at < text.length(); at++) {
            char sign = text.charAt(at);
            if (sign > 127) {
                Check.tell("sign " + (int) sign + " at " + at);
            }
        }
        String code = withoutCommentsAndTexts(text);
        for (String pattern : FORBIDDEN) {
            Matcher found = Pattern.compile(pattern, Pattern.MULTILINE).matcher(code);
            if (found.find()) {
                Check.tell("the code has " + found.group() + ", which " + pattern + " rules out");
            }
        }
    }

    private static String withoutCommentsAndTexts(String text) {
        String code = text.replaceAll("(?s)/\\*.*?\\*/", "");
        return code.replaceAll("\"[^\"\n]*\"", "\"\"").replaceAll("//[^\n]*", "");
    }
}
