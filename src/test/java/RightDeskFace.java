import java.io.IOException;
import java.lang.reflect.Constructor;
import java.lang.reflect.Field;
import java.lang.reflect.Method;
import java.lang.reflect.Modifier;
import java.nio.file.Files;
import java.nio.file.Path;
import java.util.ArrayList;
import java.util.List;
import java.util.Set;
import java.util.TreeSet;
import java.util.regex.Matcher;
import java.util.regex.Pattern;

/** The public face of the document, and those rules of LANGUAGE.md that a test can see. */
public final class RightDeskFace {
    private static final Path SOURCE = Path.of("src/main/java/RightDesk.java");

    private static final Set<String> FACE = Set.of(
            "int member(int,int,boolean)",
            "int condition(int,int,int,int)",
            "int rule(int,boolean,int)",
            "int drop(int)",
            "int may(int,int,int,int,int,int)",
            "int asks(int)",
            "int ask(int,int)",
            "int within(int,int)",
            "int decides(int)",
            "int sees(int,int)",
            "int matters(int)",
            "int idle(boolean,int)",
            "int apart(int,int)",
            "int allowed()",
            "int conditions()",
            "int rules()");

    private static final String[] RULED_OUT = {
        "throw", "throws", "try", "catch", "finally", "synchronized", "assert", "package", "protected",
        "volatile", "native", "Random", "Thread", "Object", "Exception", "hashCode"};

    private static final Set<String> LISTED = Set.of(
            "System.arraycopy", "Arrays.copyOf", "Arrays.copyOfRange", "Arrays.fill", "List.of");

    private static int wrong = 0;

    private static void refuse(String what) {
        wrong++;
        System.out.println(what);
    }

    public static void main(String[] args) throws IOException {
        constants();
        constructors();
        methods();
        nested();
        source(withoutTexts(Files.readString(SOURCE)));
        System.out.println(wrong == 0 ? "the face is as due" : wrong + " faults of the face");
        if (wrong != 0) {
            System.exit(1);
        }
    }

    private static void constants() {
        Set<String> seen = new TreeSet<>();
        for (Field field : RightDesk.class.getDeclaredFields()) {
            int is = field.getModifiers();
            if (!Modifier.isPrivate(is)) {
                seen.add(Modifier.toString(is) + " " + field.getType() + " " + field.getName());
            }
            if (Modifier.isStatic(is) && !Modifier.isFinal(is)) {
                refuse("static state: " + field);
            }
        }
        Set<String> want = Set.of(
                "public static final int BAD", "public static final int NO", "public static final int FULL");
        if (!seen.equals(want)) {
            refuse("the constants are " + seen);
        }
    }

    private static void constructors() {
        Constructor<?>[] made = RightDesk.class.getDeclaredConstructors();
        if (made.length != 1 || made[0].getParameterCount() != 0 || !Modifier.isPublic(made[0].getModifiers())) {
            refuse("the constructor is not public RightDesk() alone");
        }
        int is = RightDesk.class.getModifiers();
        if (!Modifier.isPublic(is) || !Modifier.isFinal(is)) {
            refuse("the class is not public and final");
        }
    }

    private static String signature(Method method) {
        List<String> types = new ArrayList<>();
        for (Class<?> type : method.getParameterTypes()) {
            types.add(type.getName());
        }
        return method.getReturnType().getName() + " " + method.getName() + "(" + String.join(",", types) + ")";
    }

    private static void methods() {
        Set<String> seen = new TreeSet<>();
        Set<String> names = new TreeSet<>();
        for (Method method : RightDesk.class.getDeclaredMethods()) {
            if (!Modifier.isPrivate(method.getModifiers())) {
                seen.add(signature(method));
                names.add(method.getName());
            }
            if (!Modifier.isPrivate(method.getModifiers()) && Modifier.isStatic(method.getModifiers())) {
                refuse("static in the face: " + method);
            }
        }
        if (!seen.equals(FACE)) {
            refuse("the methods are " + seen);
        }
        for (Method method : RightDesk.class.getDeclaredMethods()) {
            if (Modifier.isPrivate(method.getModifiers()) && names.contains(method.getName())) {
                refuse("a private method bears a public name: " + method);
            }
        }
    }

    private static void nested() {
        Class<?>[] inside = RightDesk.class.getDeclaredClasses();
        if (inside.length > 11) {
            refuse("too many classes: " + inside.length);
        }
        for (Class<?> one : inside) {
            int is = one.getModifiers();
            if (!Modifier.isStatic(is) || Modifier.isPublic(is) || Modifier.isProtected(is)) {
                refuse("not static, or to be seen from outside: " + one);
            }
            for (Method method : one.getDeclaredMethods()) {
                if (method.getParameterCount() > 7) {
                    refuse("too many parameters: " + method);
                }
                if (FACE.stream().anyMatch(face -> face.contains(" " + method.getName() + "("))) {
                    refuse("a method inside bears a public name: " + method);
                }
            }
        }
    }

    private static String withoutTexts(String text) {
        return text.replaceAll("(?s)/\\*.*?\\*/", " ").replaceAll("//[^\\n]*", " ").replaceAll("\"[^\"\\n]*\"", "\"\"");
    }

    private static void source(String text) {
        for (String word : RULED_OUT) {
            if (Pattern.compile("\\b" + word + "\\b").matcher(text).find()) {
                refuse("the source has the word " + word);
            }
        }
        for (String sign : new String[] {"->", "::", "@"}) {
            if (text.contains(sign)) {
                refuse("the source has the sign " + sign);
            }
        }
        Matcher library = Pattern.compile("\\b(System|Arrays|List|String)\\.\\w+").matcher(text);
        while (library.find()) {
            if (!LISTED.contains(library.group())) {
                refuse("the source uses " + library.group());
            }
        }
        if (Pattern.compile("\\b(Math|Integer|Long)\\.\\w+Exact\\b").matcher(text).find()) {
            refuse("the source uses a function whose name ends in Exact");
        }
    }
}
