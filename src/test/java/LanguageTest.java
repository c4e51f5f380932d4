import java.io.IOException;
import java.lang.reflect.Constructor;
import java.lang.reflect.Field;
import java.lang.reflect.Method;
import java.lang.reflect.Modifier;
import java.nio.file.Files;
import java.nio.file.Path;
import java.util.Set;
import java.util.TreeSet;
import java.util.regex.Matcher;
import java.util.regex.Pattern;

/** The rules of LANGUAGE.md that can be seen from outside: the face, the words, the library, the sizes. */
public final class LanguageTest {
    private static final Path SOURCE = Path.of("src/main/java/GlobProfile.java");
    private static final Set<String> FACE = Set.of("boolean type(int,int)", "int rule(boolean,int)", "boolean drop(int)",
            "int rules()", "int pieces(int)", "int compile(int)", "int sets()", "int states()", "int next(int,int)",
            "int gives(int)", "int match()", "int walk(int)", "boolean restart()", "int place()", "int way(int)");
    private static final String BANNED = "\\b(throw|try|catch|synchronized|assert|volatile|package|protected|throws)\\b|->|::";
    private static final Set<String> LIBRARY = Set.of("Arrays.fill", "System.arraycopy", "Typed.END");
    private static final Check CHECK = new Check();

    public static void main(String[] args) throws IOException {
        face();
        words(withoutComments(Files.readString(SOURCE)));
        CHECK.end();
    }

    private static void face() {
        CHECK.due("class is public and final", GlobProfile.class.getModifiers(), Modifier.PUBLIC | Modifier.FINAL);
        Constructor<?>[] constructors = GlobProfile.class.getDeclaredConstructors();
        CHECK.due("constructors", constructors.length, 1);
        CHECK.due("constructor is public", Modifier.isPublic(constructors[0].getModifiers()), true);
        CHECK.due("constructor's parameters", constructors[0].getParameterCount(), 0);
        Set<String> seen = new TreeSet<>();
        Set<String> publicNames = new TreeSet<>();
        for (Method method : GlobProfile.class.getDeclaredMethods()) {
            if (!Modifier.isPrivate(method.getModifiers())) {
                String line = method.toString().replace("public ", "").replace("GlobProfile.", "");
                CHECK.due(line + " is of the face", FACE.contains(line), true);
                seen.add(line);
                publicNames.add(method.getName());
            }
        }
        CHECK.due("methods of the face", seen.size(), FACE.size());
        hidden(GlobProfile.class, publicNames);
        for (Class<?> inside : GlobProfile.class.getDeclaredClasses()) {
            CHECK.due(inside + " is static", Modifier.isStatic(inside.getModifiers()), true);
            CHECK.due(inside + " is not public", Modifier.isPublic(inside.getModifiers()), false);
            hidden(inside, publicNames);
        }
        CHECK.due("classes inside are at most 11", GlobProfile.class.getDeclaredClasses().length <= 11, true);
    }

    private static void hidden(Class<?> type, Set<String> publicNames) {
        int fields = 0;
        for (Field field : type.getDeclaredFields()) {
            boolean constant = Modifier.isStatic(field.getModifiers());
            fields += constant ? 0 : 1;
            CHECK.due(field + " is final if static", !constant || Modifier.isFinal(field.getModifiers()), true);
            CHECK.due(field + " is private", type != GlobProfile.class || Modifier.isPrivate(field.getModifiers()), true);
        }
        CHECK.due(type + " has at most 20 fields", fields <= 20, true);
        for (Method method : type.getDeclaredMethods()) {
            CHECK.due(method + " has at most 7 parameters", method.getParameterCount() <= 7, true);
            boolean hides = !Modifier.isPublic(method.getModifiers()) && publicNames.contains(method.getName());
            CHECK.due(method + " bears a name of the face", hides, false);
        }
    }

    private static String withoutComments(String source) {
        return source.replaceAll("(?s)/\\*.*?\\*/", "").replaceAll("//[^\n]*", "");
    }

    private static void words(String code) {
        Matcher banned = Pattern.compile(BANNED).matcher(code);
        CHECK.due("banned word" + (banned.find() ? " " + banned.group() : ""), banned.reset().find(), false);
        Matcher call = Pattern.compile("\\b[A-Z]\\w*\\.\\w+").matcher(code);
        while (call.find()) {
            CHECK.due(call.group() + " is of the library", LIBRARY.contains(call.group()), true);
        }
        Matcher imported = Pattern.compile("import ([^;]+);").matcher(code);
        while (imported.find()) {
            CHECK.due("import " + imported.group(1), imported.group(1).equals("java.util.Arrays"), true);
        }
    }
}
