import java.io.IOException;
import java.lang.reflect.Constructor;
import java.lang.reflect.Field;
import java.lang.reflect.Method;
import java.lang.reflect.Modifier;
import java.nio.file.Files;
import java.nio.file.Path;
import java.util.Set;
import java.util.TreeSet;
import java.util.regex.Pattern;

/** The class shows the document's face and nothing else, and keeps to rules of LANGUAGE.md that can be seen. */
public final class FaceTest {
    private static final String[] FACE = {
        "int submit(int, int, int, int)", "boolean deliver(int, int)", "int pump(int, int)", "boolean tick(int)",
        "boolean corrupt(int)", "int forge(int, int, int, int)", "int forgeCheckpoint(int, long)", "int messages()",
        "long look(int, int)", "int mark(int)", "int view(int)", "int executed(int)", "int stable(int)",
        "long state(int)", "int slot(int, int)", "int ordered(int, int)", "int timer(int)", "int waiting(int)",
        "int outstanding(int)", "int answer(int)"};

    private static final String[] FORBIDDEN = {
        "throw", "try", "catch", "synchronized", "assert", "package", "->", "::", "@", "HashMap", "Random", "System.",
        "Thread", "protected"};

    private final Check check = new Check();

    public static void main(String[] args) throws IOException {
        FaceTest test = new FaceTest();
        test.members();
        test.insides();
        test.words();
        test.check.end();
    }

    private void holds(String what, boolean is) {
        check.due(what, is, true);
    }

    private static String shape(Method method) {
        StringBuilder text = new StringBuilder(method.getReturnType().getSimpleName());
        text.append(' ').append(method.getName()).append('(');
        for (Class<?> type : method.getParameterTypes()) {
            text.append(text.charAt(text.length() - 1) == '(' ? "" : ", ").append(type.getSimpleName());
        }
        return text.append(')').toString();
    }

    private void members() {
        check.part("the face");
        Class<?> face = ThreePhaseGroup.class;
        holds("public and final", Modifier.isPublic(face.getModifiers()) && Modifier.isFinal(face.getModifiers()));
        Set<String> want = new TreeSet<>(Set.of(FACE));
        Set<String> names = new TreeSet<>();
        Set<String> got = new TreeSet<>();
        for (Method method : face.getDeclaredMethods()) {
            if (Modifier.isPublic(method.getModifiers())) {
                got.add(shape(method));
                names.add(method.getName());
            }
        }
        holds("the public methods " + got, got.equals(want));
        for (Method method : face.getDeclaredMethods()) {
            boolean shown = Modifier.isPublic(method.getModifiers());
            holds(shape(method) + " is public or private", shown || Modifier.isPrivate(method.getModifiers()));
            holds(shape(method) + " bears a public name", shown || !names.contains(method.getName()));
        }
        Constructor<?>[] constructors = face.getDeclaredConstructors();
        holds("one public constructor without parameters", constructors.length == 1
                && Modifier.isPublic(constructors[0].getModifiers()) && constructors[0].getParameterCount() == 0);
        for (Field field : face.getDeclaredFields()) {
            holds(field + " is private", Modifier.isPrivate(field.getModifiers()));
        }
    }

    private void insides() {
        check.part("the classes inside");
        Class<?>[] inside = ThreePhaseGroup.class.getDeclaredClasses();
        holds("at most twelve classes", inside.length < 12);
        for (Class<?> one : inside) {
            holds(one + " is static", Modifier.isStatic(one.getModifiers()));
            holds(one + " is not shown", !Modifier.isPublic(one.getModifiers()));
            int fields = 0;
            for (Field field : one.getDeclaredFields()) {
                fields += Modifier.isStatic(field.getModifiers()) ? 0 : 1;
                holds(field + " is static but not final",
                        !Modifier.isStatic(field.getModifiers()) || Modifier.isFinal(field.getModifiers()));
            }
            holds(one + " has at most twenty fields", fields <= 20);
            for (Method method : one.getDeclaredMethods()) {
                holds(method + " takes at most seven", method.getParameterCount() <= 7);
            }
        }
    }

    private void words() throws IOException {
        check.part("the text");
        String text = Files.readString(Path.of("src/main/java/ThreePhaseGroup.java"));
        String code = text.replaceAll("(?s)/\\*.*?\\*/", "").replaceAll("//[^\n]*", "");
        for (String word : FORBIDDEN) {
            boolean letters = Character.isLetter(word.charAt(0)) && Character.isLetter(word.charAt(word.length() - 1));
            String pattern = letters ? "\\b" + word + "\\b" : Pattern.quote(word);
            holds("no " + word, !Pattern.compile(pattern).matcher(code).find());
        }
    }
}
