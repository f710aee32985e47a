import java.io.IOException;
import java.lang.reflect.Constructor;
import java.lang.reflect.Field;
import java.lang.reflect.Method;
import java.lang.reflect.Modifier;
import java.nio.file.Files;
import java.nio.file.Path;
import java.util.Set;
import java.util.TreeSet;
import java.util.regex.Pattern;

/** The public face, and those rules of LANGUAGE.md that can be looked up in the class and its text. */
final class FaceTest {
    private static final Set<String> FACE = Set.of(
            "boolean clock(int)", "int trust(int,int)", "int says(int,int,int,int,int)",
            "int believed(int)", "int spans(int,int,int)", "int quarrel()", "int quarrels(int)",
            "int value(int,int,int,int)", "int earlier(int,int,int)", "boolean overrule(int,int)",
            "boolean suit(int,int)", "int feed(int,int,int,int,int)", "int end(int)", "int law(int)",
            "boolean sheet(int,long,long,long,long)", "int ship(int,int,int,int,int,int)",
            "int judge(int,int)", "long judged(int)", "int like(int)", "long share(int,int)",
            "long hand(int,int)", "int saved(int,int,int)", "int count(int)");
    private static final String[] FORBIDDEN = {"throw", "throws", "try", "catch", "finally", "assert",
        "synchronized", "System\\.(?!arraycopy)\\w+", "->", "::", "Exact\\b", "java\\.util\\.(?!Arrays;)",
        "protected", "toString", "hashCode"};

    public static void main(String[] args) throws IOException {
        Class<?> face = SalvageCourt.class;
        Due.due("final", Modifier.isFinal(face.getModifiers()), true);
        Due.due("public", Modifier.isPublic(face.getModifiers()), true);
        Due.due("NONE", SalvageCourt.NONE, -1);
        methods(face);
        constructorsAndFields(face);
        nested(face);
        text();
        Due.finish();
    }

    private static void methods(Class<?> face) {
        Set<String> open = new TreeSet<>();
        for (Method method : face.getDeclaredMethods()) {
            if (!Modifier.isPrivate(method.getModifiers())) {
                StringBuilder told = new StringBuilder();
                for (Class<?> type : method.getParameterTypes()) {
                    told.append(told.length() == 0 ? "" : ",").append(type.getName());
                }
                open.add(method.getReturnType().getName() + " " + method.getName() + "(" + told + ")");
            }
        }
        Due.due("methods of the face: " + open, open.equals(FACE), true);
    }

    private static void constructorsAndFields(Class<?> face) {
        Constructor<?>[] constructors = face.getDeclaredConstructors();
        Due.due("one constructor", constructors.length, 1);
        Due.due("without parameters", constructors[0].getParameterCount(), 0);
        for (Field field : face.getDeclaredFields()) {
            boolean open = !Modifier.isPrivate(field.getModifiers());
            Due.due("field " + field.getName(), open, field.getName().equals("NONE"));
        }
    }

    private static void nested(Class<?> face) {
        Set<String> names = new TreeSet<>();
        for (String method : FACE) {
            names.add(method.replaceAll(".* |\\(.*", ""));
        }
        Due.due("some twelve classes", face.getDeclaredClasses().length <= 12, true);
        for (Class<?> inside : face.getDeclaredClasses()) {
            Due.due(inside + " is static", Modifier.isStatic(inside.getModifiers()), true);
            for (Method method : inside.getDeclaredMethods()) {
                Due.due(inside + " takes a name of the face: " + method.getName(),
                        names.contains(method.getName()), false);
                Due.due("seven parameters: " + method, method.getParameterCount() <= 7, true);
            }
            int fields = 0;
            for (Field field : inside.getDeclaredFields()) {
                boolean isStatic = Modifier.isStatic(field.getModifiers());
                fields += isStatic ? 0 : 1;
                Due.due("static and not final: " + field,
                        isStatic && !Modifier.isFinal(field.getModifiers()), false);
            }
            Due.due("some twenty fields: " + inside, fields <= 20, true);
        }
    }

    private static void text() throws IOException {
        String text = Files.readString(Path.of("src/main/java/SalvageCourt.java"));
        String code = text.replaceAll("(?s)/\\*.*?\\*/", "").replaceAll("//[^\n]*", "");
        for (String word : FORBIDDEN) {
            boolean isWord = Character.isLetter(word.charAt(0)) && word.matches("\\w+");
            Pattern pattern = Pattern.compile(isWord ? "\\b" + word + "\\b" : word);
            Due.due("the text has " + word, pattern.matcher(code).find(), false);
        }
        for (int i = 0; i < text.length(); i++) {
            Due.due("sign at " + i, text.charAt(i) < 127, true);
        }
    }
}
