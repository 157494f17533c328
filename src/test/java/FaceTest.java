import java.io.IOException;
import java.lang.reflect.Constructor;
import java.lang.reflect.Field;
import java.lang.reflect.Method;
import java.lang.reflect.Modifier;
import java.nio.charset.StandardCharsets;
import java.nio.file.Files;
import java.nio.file.Path;
import java.util.Arrays;
import java.util.TreeSet;

/** The public face of the document, no more and no less, and rules of LANGUAGE.md that can be seen from outside. */
public final class FaceTest {
    private static final Check CHECK = new Check("FaceTest");

    private static final String[] FACE = {
        "int feed(int,int,int,int,int)", "int acts(int)", "int fault(int)", "int halves(int)", "int life(int,int)",
        "int asks(int,int)", "int rent(int,int,int,int)", "boolean sell(int,int,int,int)", "int parts(int,int,int)",
        "int note(int,int,boolean)", "int strike(int)", "int dead(int,int)", "int holds(int,int)",
        "int paid(int,int,int)", "int got(int,int)", "int owed(int,int)", "int state(int,int)",
        "boolean sold(int,int,int)", "int own(int,int,int,int)", "int worth(int,int,int)", "int names(int)",
        "int named(int)", "int look(int)", "long risk(int)", "int converts(int)", "int count(int)",
    };

    public static void main(String[] args) throws IOException {
        face();
        members();
        source();
        CHECK.close();
    }

    private static String say(Method method) {
        StringBuilder text = new StringBuilder(method.getReturnType() + " " + method.getName() + "(");
        for (Class<?> type : method.getParameterTypes()) {
            text.append(text.charAt(text.length() - 1) == '(' ? "" : ",").append(type);
        }
        return text.append(")").toString();
    }

    private static void face() {
        TreeSet<String> found = new TreeSet<>();
        for (Method method : LifeRents.class.getDeclaredMethods()) {
            if (!Modifier.isPrivate(method.getModifiers()) && !method.isSynthetic()) {
                CHECK.due(method + " is public", Modifier.isPublic(method.getModifiers()), true);
                CHECK.due(method + " is of an object", Modifier.isStatic(method.getModifiers()), false);
                found.add(say(method));
            }
        }
        TreeSet<String> wanted = new TreeSet<>(Arrays.asList(FACE));
        CHECK.due("methods " + found + " are " + wanted, found.equals(wanted), true);
        Constructor<?>[] constructors = LifeRents.class.getDeclaredConstructors();
        CHECK.due("constructors", constructors.length, 1);
        CHECK.due("its parameters", constructors[0].getParameterCount(), 0);
        CHECK.due("it is public", Modifier.isPublic(constructors[0].getModifiers()), true);
        CHECK.due("a final class", Modifier.isFinal(LifeRents.class.getModifiers()), true);
    }

    private static void members() {
        TreeSet<String> faceNames = new TreeSet<>();
        for (String method : FACE) {
            faceNames.add(method.substring(method.indexOf(' ') + 1, method.indexOf('(')));
        }
        for (Field field : LifeRents.class.getDeclaredFields()) {
            boolean told = field.getName().equals("NONE");
            CHECK.due("field " + field, Modifier.isPrivate(field.getModifiers()), !told);
        }
        for (Method method : LifeRents.class.getDeclaredMethods()) {
            boolean hidden = Modifier.isPrivate(method.getModifiers());
            CHECK.due("name of " + method, hidden && faceNames.contains(method.getName()), false);
            CHECK.due("parameters of " + method, method.getParameterCount() <= 7, true);
        }
        Class<?>[] inside = LifeRents.class.getDeclaredClasses();
        CHECK.due("classes inside", inside.length <= 11, true);
        for (Class<?> type : inside) {
            CHECK.due(type + " is static", Modifier.isStatic(type.getModifiers()), true);
            CHECK.due(type + " is hidden", Modifier.isPublic(type.getModifiers()) || Modifier.isProtected(type.getModifiers()), false);
            int fields = 0;
            for (Field field : type.getDeclaredFields()) {
                fields += Modifier.isStatic(field.getModifiers()) ? 0 : 1;
                boolean open = Modifier.isStatic(field.getModifiers()) && !Modifier.isFinal(field.getModifiers());
                CHECK.due("static field " + field, open, false);
            }
            CHECK.due("fields of " + type, fields <= 20, true);
            for (Method method : type.getDeclaredMethods()) {
                CHECK.due("parameters of " + method, method.getParameterCount() <= 7, true);
                CHECK.due("name of " + method, faceNames.contains(method.getName()), false);
            }
        }
    }

    private static void source() throws IOException {
        Path path = Path.of("src/main/java/LifeRents.java");
        String text = Files.readString(path, StandardCharsets.ISO_8859_1);
        String[] barred = {"->", "::", "finally", "synchronized", "assert ", "package ", "System.out", "catch", "Exact(",
            "static {", "ordinal()", "hashCode", "java.util.List", "String.format", "instanceof", "protected ", "var "};
        for (String word : barred) {
            CHECK.due("the source says " + word, text.contains(word), false);
        }
        for (int i = 0; i < text.length(); i++) {
            if (text.charAt(i) > 126 || text.charAt(i) < 32 && text.charAt(i) != '\n') {
                CHECK.due("a sign at " + i, text.charAt(i), '\n');
            }
        }
    }
}
