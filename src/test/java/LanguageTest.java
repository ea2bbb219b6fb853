import java.io.IOException;
import java.lang.reflect.Constructor;
import java.lang.reflect.Field;
import java.lang.reflect.Method;
import java.lang.reflect.Modifier;
import java.nio.file.Files;
import java.nio.file.Path;
import java.util.ArrayList;
import java.util.Arrays;
import java.util.List;
import java.util.Set;
import java.util.TreeSet;
import java.util.regex.Matcher;
import java.util.regex.Pattern;

/** What can be seen of the rules of LANGUAGE.md: the face, the members, and words of the source. */
public final class LanguageTest {
    private static final String SOURCE = "src/main/java/StepEditor.java";
    private static final String INDEX = "IndexOutOfBoundsException";
    private static final String ARGUMENT = "IllegalArgumentException";
    private static final String STATE = "IllegalStateException";

    private static final String[] FACE = {
        "void rule(int,int,int,int) " + INDEX + " " + ARGUMENT + " " + STATE,
        "int type(int,int,int) " + INDEX + " " + STATE,
        "int erase(int,int,int) " + INDEX + " " + ARGUMENT + " " + STATE,
        "int split(int,int) " + INDEX + " " + STATE,
        "int join(int,int) " + INDEX + " " + STATE,
        "int wrap(int,int,int,int) " + INDEX + " " + ARGUMENT + " " + STATE,
        "int unwrap(int,int) " + INDEX + " " + STATE,
        "int setType(int,int,int) " + INDEX + " " + STATE,
        "int mark(int,int,int,int,boolean) " + INDEX + " " + ARGUMENT + " " + STATE,
        "int copy(int,int,int) " + INDEX + " " + ARGUMENT,
        "int paste(int,int) " + INDEX + " " + STATE,
        "int takeBack(int) " + INDEX + " " + STATE,
        "int revert(int,int) " + INDEX + " " + STATE,
        "int send(int) " + INDEX + " " + STATE,
        "int receive(int) " + INDEX,
        "int lost(int) " + INDEX,
        "int version(int) " + INDEX,
        "boolean isBuilt()",
        "int size(int) " + INDEX,
        "int token(int,int) " + INDEX,
        "int around(int,int) " + INDEX,
        "int comment(int,int) " + INDEX + " " + ARGUMENT + " " + STATE,
        "int commentAt(int) " + INDEX,
    };

    private static final String[] FORBIDDEN = {
        "\\bimport\\b", "\\bpackage\\b", "\\bcatch\\b", "\\btry\\b", "\\bfinally\\b", "\\bsynchronized\\b",
        "\\bassert\\b", "\\binstanceof\\b", "\\bhashCode\\b", "\\btoString\\b", "\\bequals\\b", "Exact\\b",
        "\\bSystem\\b", "\\bThread\\b", "\\bObject\\b", "->", "::", "@\\w", "\\bstatic\\s*\\{", "\\bvar\\b",
        "\\bprotected\\b", "\\bdouble\\b", "\\bfloat\\b", "\\bwhile\\s*\\(true\\)", "[^\\x00-\\x7f]",
    };

    private static int wrong = 0;

    private LanguageTest() {
    }

    public static void main(String[] args) throws IOException {
        testFace();
        testMembers();
        testSource();
        System.out.println(wrong + " wrong");
        if (wrong != 0) {
            System.exit(1);
        }
    }

    private static void need(boolean holds, String fault) {
        if (!holds) {
            wrong++;
            System.out.println(fault);
        }
    }

    private static void testFace() {
        Set<String> face = new TreeSet<>();
        Set<String> names = new TreeSet<>();
        for (Method method : StepEditor.class.getDeclaredMethods()) {
            if (!Modifier.isPrivate(method.getModifiers())) {
                face.add(told(method));
                names.add(method.getName());
            }
        }
        need(face.equals(new TreeSet<>(Arrays.asList(FACE))), "the face is " + face);
        need(Modifier.toString(StepEditor.class.getModifiers()).equals("public final"), "not public final");
        Constructor<?>[] constructors = StepEditor.class.getDeclaredConstructors();
        need(constructors.length == 1 && Modifier.isPublic(constructors[0].getModifiers())
            && constructors[0].getParameterCount() == 0, "not just one public constructor");
        for (Field field : StepEditor.class.getDeclaredFields()) {
            need(Modifier.isPrivate(field.getModifiers()), "not private: " + field);
        }
        for (Class<?> type : classes()) {
            for (Method method : type.getDeclaredMethods()) {
                boolean isOfFace = type == StepEditor.class && !Modifier.isPrivate(method.getModifiers());
                need(isOfFace || !names.contains(method.getName()), "a name of the face: " + method);
            }
        }
    }

    private static String told(Method method) {
        StringBuilder text = new StringBuilder(method.getReturnType().getSimpleName());
        text.append(' ').append(method.getName()).append('(');
        for (int i = 0; i < method.getParameterCount(); i++) {
            text.append(i == 0 ? "" : ",").append(method.getParameterTypes()[i].getSimpleName());
        }
        text.append(')');
        for (Class<?> thrown : method.getExceptionTypes()) {
            text.append(' ').append(thrown.getSimpleName());
        }
        return text.toString();
    }

    private static List<Class<?>> classes() {
        List<Class<?>> classes = new ArrayList<>(List.of(StepEditor.class.getDeclaredClasses()));
        classes.add(StepEditor.class);
        return classes;
    }

    private static void testMembers() {
        need(classes().size() <= 12, "too many classes");
        for (Class<?> type : classes()) {
            need(type == StepEditor.class || Modifier.isStatic(type.getModifiers()), "not static: " + type);
            int fields = 0;
            for (Field field : type.getDeclaredFields()) {
                boolean isStatic = Modifier.isStatic(field.getModifiers());
                fields += isStatic ? 0 : 1;
                need(!isStatic || Modifier.isFinal(field.getModifiers()), "static state: " + field);
            }
            need(fields <= 20, "too many fields: " + type);
            for (Method method : type.getDeclaredMethods()) {
                need(method.getParameterCount() <= 7, "too many parameters: " + method);
            }
        }
    }

    private static void testSource() throws IOException {
        String source = Files.readString(Path.of(SOURCE));
        String code = source.replaceAll("(?s)/\\*.*?\\*/", "").replaceAll("//.*", "")
            .replaceAll("\"[^\"\n]*\"", "\"\"");
        for (String word : FORBIDDEN) {
            Matcher matcher = Pattern.compile(word).matcher(code);
            need(!matcher.find(), "forbidden: " + word);
        }
        int start = 0;
        String[] lines = source.split("\n");
        for (int i = 0; i < lines.length; i++) {
            if (lines[i].matches(" {4,8}[^ /*@].*[({]$") || lines[i].matches(" {4,8}[^ ].*\\) \\{$")) {
                start = i;
            }
            boolean isEnd = lines[i].matches(" {4}( {4})?\\}");
            need(!isEnd || i - start <= 60, "a long method ends at line " + (i + 1));
            need(lines[i].length() <= 110, "a long line: " + (i + 1));
        }
    }
}
