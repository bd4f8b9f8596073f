import java.io.IOException;
import java.lang.reflect.Field;
import java.lang.reflect.Method;
import java.lang.reflect.Modifier;
import java.nio.file.Files;
import java.nio.file.Path;
import java.util.ArrayList;
import java.util.HashSet;
import java.util.List;
import java.util.Set;
import java.util.TreeSet;
import java.util.regex.Matcher;
import java.util.regex.Pattern;

/** What of ../shared/LANGUAGE.md a program can see: the face, the words that may not stand, the lengths. */
public final class LanguageTest {
    private static final String FILE = "src/main/java/TrunkRoom.java";
    private static final String FACE = "wire(int,int,int) span(int,int,int,int) hands(int,int) about(int,int) count(int) "
            + "book(int,int,int,int,int) cancel(int) again(int) told(int,int) way(int,int) ways(int,int,int,int,int) "
            + "go(int) wrong(int) feed(int,long) order(int) fault() force(int,int) ticket(int,int,int,int) "
            + "clocks(int,int,int) need(int,int) shifts(int) beside(int,int,int) offer(int,int,int,int) plan(int,int)";
    private static final String CONSTANTS = "NONE UNKNOWN OUTSIDE NOT FULL";
    private static final String BANNED = "\\b(throw|throws|try|catch|synchronized|assert|import|package|Object|hashCode|"
            + "toString|Exception|Error|Thread|Random|Scanner|File|strictfp|native|volatile|transient|yield|var|"
            + "\\w+Exact)\\b|->|::|\"\\s*\\+|\\+\\s*\"|@";
    private static int wrong = 0;

    private static void check(boolean good, String what) {
        if (!good) {
            wrong++;
            System.out.println(what);
        }
    }

    public static void main(String[] args) throws IOException {
        String plain = withoutComments(Files.readString(Path.of(FILE)));
        Matcher m = Pattern.compile(BANNED).matcher(plain);
        while (m.find()) {
            check(false, "may not stand: " + m.group());
        }
        face();
        Set<String> faceNames = new HashSet<>();
        for (Method method : TrunkRoom.class.getDeclaredMethods()) {
            if (Modifier.isPublic(method.getModifiers())) {
                faceNames.add(method.getName());
            }
        }
        members(TrunkRoom.class, faceNames);
        int classes = 1;
        for (Class<?> inside : TrunkRoom.class.getDeclaredClasses()) {
            classes++;
            check(Modifier.isStatic(inside.getModifiers()) && Modifier.isPrivate(inside.getModifiers()), inside + "");
            members(inside, faceNames);
        }
        check(classes <= 12, classes + " classes");
        lengths(plain);
        System.out.println(wrong == 0 ? "within the language" : wrong + " things are outside the language");
        if (wrong != 0) {
            System.exit(1);
        }
    }

    private static void face() {
        Set<String> methods = new TreeSet<>();
        for (Method method : TrunkRoom.class.getDeclaredMethods()) {
            if (!Modifier.isPrivate(method.getModifiers())) {
                List<String> types = new ArrayList<>();
                for (Class<?> type : method.getParameterTypes()) {
                    types.add(type.getName());
                }
                methods.add(method.getName() + "(" + String.join(",", types) + ")");
                check(method.getReturnType() == int.class && Modifier.isPublic(method.getModifiers()), method + "");
            }
        }
        check(methods.equals(new TreeSet<>(List.of(FACE.split(" ")))), "the face has " + methods);
        Set<String> fields = new TreeSet<>();
        for (Field field : TrunkRoom.class.getDeclaredFields()) {
            if (!Modifier.isPrivate(field.getModifiers())) {
                fields.add(field.getName());
            }
        }
        check(fields.equals(new TreeSet<>(List.of(CONSTANTS.split(" ")))), "not private: " + fields);
        check(Modifier.isFinal(TrunkRoom.class.getModifiers()), "the class is not final");
    }

    private static void members(Class<?> of, Set<String> faceNames) {
        int fields = 0;
        for (Field field : of.getDeclaredFields()) {
            if (Modifier.isStatic(field.getModifiers())) {
                check(Modifier.isFinal(field.getModifiers()), "static and not final: " + field);
            } else {
                fields++;
            }
        }
        check(fields <= 22, of.getName() + " has " + fields + " fields");
        for (Method method : of.getDeclaredMethods()) {
            check(method.getParameterCount() <= 7, "too many parameters: " + method);
            check(of == TrunkRoom.class && Modifier.isPublic(method.getModifiers())
                    || !faceNames.contains(method.getName()), "bears the name of a public one: " + method);
        }
    }

    private static void lengths(String plain) {
        int start = 0;
        int line = 0;
        for (String text : plain.split("\n")) {
            line++;
            if (text.matches("    (    )?[a-zA-Z].*\\) \\{")) {
                start = line;
            }
            if (text.matches("    (    )?\\}") && start > 0) {
                check(line - start <= 60, "longer than sixty lines: line " + start);
                start = 0;
            }
        }
    }

    private static String withoutComments(String source) {
        return source.replaceAll("(?s)/\\*.*?\\*/", "").replaceAll("//[^\n]*", "");
    }
}
