import java.io.IOException;
import java.lang.reflect.Constructor;
import java.lang.reflect.Field;
import java.lang.reflect.Method;
import java.lang.reflect.Modifier;
import java.nio.file.Files;
import java.nio.file.Path;
import java.util.ArrayList;
import java.util.Arrays;
import java.util.List;
import java.util.Set;
import java.util.TreeSet;

/**
 * The face of the class, and what of the language's rules can be seen from the class and its text.
 * Runs in the project's folder.
 */
public final class LanguageTest {
    private static final String[] FACE = {
        "int add(int,int,int,int)", "int take(int,int,int,int)", "int reset(int,int)", "int kind(int,int,int)",
        "int taken(int,int,int)", "long worth(int,int,int)", "int told(int,int,int)", "int dot(int,int,int)",
        "int has(int,int,int,int)", "int send(int,int,int)", "int come(int)", "int lose(int)", "int twice(int)",
        "int letter(int,int)", "long met(int,int)", "int apart(int,int,int)", "int needs(int,int,int,long,int)",
        "int drawn(int,int)", "int chance(int,int,int)", "int tells(int,int,int,int)", "int film(int,int,int,int)",
        "int image()", "int back()", "int count(int)", "int sheet(int,int,int)", "int put(int,int,int)",
        "long item(int,int)", "int copy(int,int,int,int,int)"};
    private static final String[] CONSTANTS = {"NONE", "BAD", "STATE", "FULL"};
    private static final String[] BANNED = {"->", "::", "Exact(", "Float.", "Double.", "_VALUE", "System.out", "System.in",
        "while (true)", "for (;;)"};
    private static final String[] BANNED_WORDS = {"import", "package", "throw", "throws", "try", "catch", "finally",
        "synchronized", "assert", "record", "var", "yield", "volatile", "native", "transient", "Object", "Thread", "Random"};

    private static int wrong;

    private static void hold(boolean holds, String what) {
        if (!holds) {
            wrong++;
            System.out.println("does not hold: " + what);
        }
    }

    public static void main(String[] args) throws IOException {
        faceIsTheDocuments();
        classesInside();
        text(Files.readAllLines(Path.of("src/main/java/JoinedStores.java")));
        System.out.println(wrong == 0 ? "the language is kept to" : wrong + " rules are broken");
        if (wrong != 0) {
            System.exit(1);
        }
    }

    private static void faceIsTheDocuments() {
        Class<?> face = JoinedStores.class;
        hold(face.getModifiers() == (Modifier.PUBLIC | Modifier.FINAL), "public and final");
        Set<String> seen = new TreeSet<>();
        Set<String> names = new TreeSet<>();
        for (Method method : face.getDeclaredMethods()) {
            if (Modifier.isPublic(method.getModifiers())) {
                seen.add(signature(method));
                names.add(method.getName());
                hold(!Modifier.isStatic(method.getModifiers()), method.getName() + " is no static one");
            }
        }
        hold(seen.equals(new TreeSet<>(Arrays.asList(FACE))), "the face is the document's: " + seen);
        for (Method method : face.getDeclaredMethods()) {
            int modifiers = method.getModifiers();
            hold(Modifier.isPublic(modifiers) || Modifier.isPrivate(modifiers), "seen from outside: " + method);
            hold(!Modifier.isPrivate(modifiers) || !names.contains(method.getName()), "a face's name: " + method);
        }
        for (Constructor<?> constructor : face.getDeclaredConstructors()) {
            hold(constructor.getParameterCount() == 0 && Modifier.isPublic(constructor.getModifiers()), "" + constructor);
        }
        List<String> constants = new ArrayList<>();
        for (Field field : face.getDeclaredFields()) {
            if (!Modifier.isPrivate(field.getModifiers())) {
                constants.add(field.getName());
                hold(field.getModifiers() == (Modifier.PUBLIC | Modifier.STATIC | Modifier.FINAL), "a constant: " + field);
            }
        }
        hold(constants.equals(Arrays.asList(CONSTANTS)), "the constants are the document's: " + constants);
    }

    private static String signature(Method method) {
        List<String> types = new ArrayList<>();
        for (Class<?> type : method.getParameterTypes()) {
            types.add(type.getName());
        }
        return method.getReturnType().getName() + " " + method.getName() + "(" + String.join(",", types) + ")";
    }

    private static void classesInside() {
        List<Class<?>> classes = new ArrayList<>(Arrays.asList(JoinedStores.class.getDeclaredClasses()));
        hold(classes.size() < 12, "some twelve classes");
        for (Class<?> one : classes) {
            hold(Modifier.isStatic(one.getModifiers()) && !Modifier.isPublic(one.getModifiers()), "static inside: " + one);
        }
        classes.add(JoinedStores.class);
        for (Class<?> one : classes) {
            int fields = 0;
            for (Field field : one.getDeclaredFields()) {
                boolean isStatic = Modifier.isStatic(field.getModifiers());
                fields += isStatic ? 0 : 1;
                hold(!isStatic || Modifier.isFinal(field.getModifiers()), "static fields are final: " + field);
            }
            hold(fields <= 20, "some twenty fields in " + one);
            for (Method method : one.getDeclaredMethods()) {
                hold(method.getParameterCount() <= 7, "seven parameters of " + method);
            }
        }
    }

    private static void text(List<String> lines) {
        int start = 0;
        for (int i = 0; i < lines.size(); i++) {
            String line = lines.get(i);
            for (int j = 0; j < line.length(); j++) {
                hold(line.charAt(j) > 0 && line.charAt(j) < 127, "a sign of line " + (i + 1));
            }
            String code = line.replaceAll("/\\*\\*.*|^ \\*.*|//.*", "");
            for (String banned : BANNED) {
                hold(!code.contains(banned), banned + " in line " + (i + 1));
            }
            for (String word : code.split("[^A-Za-z0-9_]+")) {
                hold(!Arrays.asList(BANNED_WORDS).contains(word), word + " in line " + (i + 1));
            }
            hold(!code.matches("\\s*static\\s*\\{"), "a static initialiser block in line " + (i + 1));
            if (line.isEmpty()) {
                start = i;
            }
            hold(i - start <= 60, "some sixty lines without a gap at line " + (i + 1));
        }
    }
}
