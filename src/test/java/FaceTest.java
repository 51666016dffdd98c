import java.io.IOException;
import java.lang.reflect.Constructor;
import java.lang.reflect.Field;
import java.lang.reflect.Method;
import java.lang.reflect.Modifier;
import java.nio.file.Files;
import java.nio.file.Path;
import java.util.Arrays;
import java.util.TreeSet;
import java.util.regex.Matcher;
import java.util.regex.Pattern;

/** The public face of the document, and the rules of the language that can be seen in the source. */
public final class FaceTest {
    private static final String[] METHODS = {
        "int feed(5)", "int back(1)", "int read(1)", "int place(0)", "int moon(1)", "int land(2)",
        "boolean table(2)", "boolean cell(3)", "boolean travel(3)", "int witness(1)",
        "int report(2)", "int cloud(2)", "int age(2)", "int light(2)", "int verdict(2)",
        "int worth(3)", "int begins(3)", "int by(3)", "int heard(4)", "int date(3)", "int turn(5)",
        "int unlike(5)", "int changed(3)", "int count(1)"};
    private static final String[] FORBIDDEN = {
        "throw", "throws", "try", "catch", "synchronized", "assert", "Exact", "protected", "->",
        "::", "package", "equals", "hashCode", "Object", "Thread", "Random", "static \\{"};
    private static final Checks checks = new Checks();

    public static void main(String[] args) throws IOException {
        checkFace();
        checkClassesInside();
        checkSource(Files.readString(Path.of("src/main/java/CrescentCourt.java")));
        checks.end();
    }

    private static void checkFace() {
        Class<CrescentCourt> face = CrescentCourt.class;
        checks.due("public and final", face.getModifiers(), Modifier.PUBLIC | Modifier.FINAL);
        checks.due("NONE", CrescentCourt.NONE, -1);
        checks.due("constructors", face.getDeclaredConstructors().length, 1);
        for (Constructor<?> constructor : face.getDeclaredConstructors()) {
            checks.due("the constructor's parameters", constructor.getParameterCount(), 0);
            checks.due("it is public", Modifier.isPublic(constructor.getModifiers()), true);
        }
        for (Field field : face.getDeclaredFields()) {
            boolean isFace = field.getName().equals("NONE");
            checks.due("private: " + field, Modifier.isPrivate(field.getModifiers()), !isFace);
            checks.due("static is final: " + field, isStaticAndFree(field), false);
        }
        TreeSet<String> due = new TreeSet<>(Arrays.asList(METHODS));
        for (Method method : face.getDeclaredMethods()) {
            String shape = method.getReturnType() + " " + method.getName()
                    + "(" + method.getParameterCount() + ")";
            boolean isFace = due.remove(shape);
            checks.due("public: " + method, Modifier.isPublic(method.getModifiers()), isFace);
            checks.due("private: " + method, Modifier.isPrivate(method.getModifiers()), !isFace);
        }
        checks.due("methods that lack: " + due, due.size(), 0);
    }

    private static boolean isStaticAndFree(Field field) {
        return Modifier.isStatic(field.getModifiers()) && !Modifier.isFinal(field.getModifiers());
    }

    private static void checkClassesInside() {
        checks.due("at most twelve classes", CrescentCourt.class.getDeclaredClasses().length < 12,
                true);
        for (Class<?> inside : CrescentCourt.class.getDeclaredClasses()) {
            checks.due("static: " + inside, Modifier.isStatic(inside.getModifiers()), true);
            int fields = 0;
            for (Field field : inside.getDeclaredFields()) {
                fields += Modifier.isStatic(field.getModifiers()) ? 0 : 1;
                checks.due("static is final: " + field, isStaticAndFree(field), false);
            }
            checks.due("at most twenty fields: " + inside, fields <= 20, true);
            for (Method method : inside.getDeclaredMethods()) {
                checks.due("no public name: " + method, isPublicName(method.getName()), false);
                checks.due("seven parameters: " + method, method.getParameterCount() <= 7, true);
            }
        }
    }

    private static boolean isPublicName(String name) {
        for (String method : METHODS) {
            if (method.contains(" " + name + "(")) {
                return true;
            }
        }
        return false;
    }

    private static void checkSource(String source) {
        String code = source.replaceAll("(?s)/\\*.*?\\*/", "").replaceAll("//[^\n]*", "");
        for (String word : FORBIDDEN) {
            String pattern = Character.isLetter(word.charAt(0)) ? "\\b" + word : word;
            Matcher matcher = Pattern.compile(pattern + (word.length() > 2 ? "(?!\\w)" : ""))
                    .matcher(code);
            checks.due("in the source: " + word, matcher.find(), false);
        }
        int line = 0;
        for (String text : source.split("\n")) {
            line++;
            checks.due("at most 100 characters in line " + line, text.length() <= 100, true);
        }
        checkNothingIsMadeByCalls(code);
    }

    /** All calls of a run live in one room: whatever is made is made with the object. */
    private static void checkNothingIsMadeByCalls(String code) {
        for (String text : code.split("\n")) {
            if (text.contains("new ")) {
                boolean isField = text.matches("    (    )?(private )?(final )?\\w+[\\[\\]]* \\w+ = new .*");
                boolean isConstructor = text.contains("texts[land] = new Text();");
                checks.due("made with the object: " + text.trim(), isField || isConstructor, true);
            }
        }
    }
}
