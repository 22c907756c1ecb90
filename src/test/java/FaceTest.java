import java.io.IOException;
import java.lang.reflect.Constructor;
import java.lang.reflect.Field;
import java.lang.reflect.Method;
import java.lang.reflect.Modifier;
import java.nio.charset.StandardCharsets;
import java.nio.file.Files;
import java.nio.file.Path;
import java.util.Arrays;
import java.util.Set;
import java.util.TreeSet;
import java.util.regex.Matcher;
import java.util.regex.Pattern;

/** The public face of the document, and the rules of LANGUAGE.md that can be looked up by a program. */
public final class FaceTest {
    private static final Due DUE = new Due();
    private static final String[] FACE = {
        "boolean begin 5", "int ring 8", "int pour 2", "int draw 1", "int air 1", "int hours 1", "int count 1",
        "int layer 2", "int told 2", "int nearest 0", "int feed 5", "int end 1", "int story 0", "int rule 0",
        "int fits 2", "int trace 2", "int chance 3", "long weight 2", "int odds 2", "int made 4", "int span 2",
        "int trial 2", "int needed 2", "int more 0", "int thicker 1", "boolean look 2", "int owed 0", "int ground 3",
        "boolean wave 5", "int minutes 1", "int place 3", "int witness 3", "int lean 5", "int mark 1", "int back 1"};

    public static void main(String[] args) throws IOException {
        face();
        hidden(TreacleTank.class);
        classesInside();
        source();
        DUE.finish();
    }

    private static void face() {
        DUE.due("the class is public and final", TreacleTank.class.getModifiers(), Modifier.PUBLIC | Modifier.FINAL);
        DUE.due("NONE", TreacleTank.NONE, -1);
        Set<String> methods = new TreeSet<>();
        for (Method method : TreacleTank.class.getDeclaredMethods()) {
            if (Modifier.isPublic(method.getModifiers())) {
                methods.add(method.getReturnType() + " " + method.getName() + " " + method.getParameterCount());
                for (Class<?> type : method.getParameterTypes()) {
                    DUE.due(method + " takes ints", type == int.class, true);
                }
            }
        }
        Set<String> want = new TreeSet<>(Arrays.asList(FACE));
        DUE.due("the methods " + methods, methods.equals(want), true);
        Constructor<?>[] constructors = TreacleTank.class.getDeclaredConstructors();
        DUE.due("one constructor", constructors.length, 1);
        DUE.due("a public one", constructors[0].getModifiers(), Modifier.PUBLIC);
        DUE.due("without parameters", constructors[0].getParameterCount(), 0);
    }

    private static void hidden(Class<?> type) {
        Set<String> face = new TreeSet<>();
        for (String row : FACE) {
            face.add(row.split(" ")[1]);
        }
        for (Field field : type.getDeclaredFields()) {
            boolean isFace = field.getName().equals("NONE");
            DUE.due("private: " + field, Modifier.isPrivate(field.getModifiers()), !isFace);
            DUE.due("final: " + field,
                    !Modifier.isStatic(field.getModifiers()) || Modifier.isFinal(field.getModifiers()), true);
        }
        for (Method method : type.getDeclaredMethods()) {
            if (!Modifier.isPublic(method.getModifiers())) {
                DUE.due("no name of the face: " + method, face.contains(method.getName()), false);
                DUE.due("at most seven: " + method, method.getParameterCount() <= 7, true);
            }
        }
    }

    private static void classesInside() {
        Class<?>[] inside = TreacleTank.class.getDeclaredClasses();
        DUE.due("at most twelve classes", inside.length + 1 <= 12, true);
        for (Class<?> type : inside) {
            DUE.due("static: " + type, Modifier.isStatic(type.getModifiers()), true);
            DUE.due("private: " + type, Modifier.isPrivate(type.getModifiers()), true);
            hidden(type);
            int fields = 0;
            for (Field field : type.getDeclaredFields()) {
                fields += Modifier.isStatic(field.getModifiers()) ? 0 : 1;
            }
            DUE.due("some twenty fields: " + type, fields <= 20, true);
        }
    }

    private static void source() throws IOException {
        String source = Files.readString(Path.of("src/main/java/TreacleTank.java"), StandardCharsets.ISO_8859_1);
        DUE.due("signs 1 to 127", source.chars().allMatch(sign -> sign > 0 && sign < 128), true);
        String code = source.replaceAll("(?s)/\\*.*?\\*/", "").replaceAll("//[^\n]*", "")
                .replaceAll("\"[^\"]*\"", "\"\"");
        Matcher banned = Pattern.compile("\\b(throw|throws|try|catch|finally|synchronized|assert|import|package|"
                + "double|float|Object|Exact)\\b|->|::|\\w+Exact\\(").matcher(code);
        while (banned.find()) {
            DUE.due("not in the language: " + banned.group(), 1, 0);
        }
        Matcher library = Pattern.compile("\\b(Math|System|Arrays|Integer|Long)\\.(\\w+)").matcher(code);
        Set<String> allowed = Set.of("Math.max", "Math.min", "Math.abs", "System.arraycopy");
        while (library.find()) {
            DUE.due("of the library: " + library.group(), allowed.contains(library.group()), true);
        }
        int length = 0;
        for (String line : code.split("\n")) {
            length = line.matches("    (    )?\\S.*\\{") ? 0 : length + 1;
            if (line.matches("    (    )?\\}")) {
                DUE.due("methods stay short, " + length, length <= 60, true);
                length = 0;
            }
        }
    }
}
