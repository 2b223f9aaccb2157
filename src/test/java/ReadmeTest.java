import java.io.IOException;
import java.lang.reflect.Method;
import java.lang.reflect.Modifier;
import java.nio.file.Files;
import java.nio.file.Path;

/** README.md tells of every call, and its examples, which are played here line by line, answer what it says. */
public final class ReadmeTest {
    private final Check check = new Check();

    public static void main(String[] args) throws IOException {
        ReadmeTest test = new ReadmeTest();
        test.oneRequest();
        test.faultyPrimary();
        test.sameLines();
        test.everyCall();
        test.check.end();
    }

    // What an example's line answers is asked for once more where that changes nothing.
    private void oneRequest() {
        check.part("a request that all goes well with");
        ThreePhaseGroup group = new ThreePhaseGroup();
        group.submit(0, 1, 2, 7);
        check.due("messages()", group.messages(), 1);
        for (int round = 0; round < 4; round++) {
            for (int party = 0; party < 6; party++) {
                group.pump(party, 8);
            }
        }
        group.answer(0);
        check.due("answer(0)", group.answer(0), 0);
        group.executed(3);
        check.due("executed(3)", group.executed(3), 1);
        group.state(3);
        check.due("state(3)", group.state(3), 67328);
    }

    private void faultyPrimary() {
        check.part("a primary that is faulty");
        ThreePhaseGroup group = new ThreePhaseGroup();
        group.corrupt(0);
        check.due("corrupt(0) again", group.corrupt(0), false);
        int request = group.submit(1, 2, 0, 3);
        for (int r = 1; r < 4; r++) {
            group.deliver(request, r);
            check.due("timer(" + r + ")", group.timer(r), 4);
            for (int step = 0; step < 4; step++) {
                group.tick(r);
            }
        }
        group.view(1);
        check.due("view(1)", group.view(1), 17);
        group.forge(4, 1, 1, 9);
        check.due("look(4, 4)", group.look(4, 4), 9);
        for (int round = 0; round < 6; round++) {
            for (int party = 0; party < 6; party++) {
                group.pump(party, 8);
            }
        }
        group.view(1);
        check.due("view(1)", group.view(1), 1);
        group.answer(1);
        check.due("answer(1)", group.answer(1), 3);
    }

    private void sameLines() throws IOException {
        check.part("the examples of README.md are those of this test");
        String here = Files.readString(Path.of("src/test/java/ReadmeTest.java"));
        boolean code = false;
        int lines = 0;
        for (String line : Files.readAllLines(Path.of("README.md"))) {
            String text = line.replaceAll("//.*", "").trim();
            if (text.startsWith("```")) {
                code = text.equals("```java");
            } else if (code) {
                lines++;
                check.due(text + " stands here", here.contains(" " + text + "\n"), true);
            }
        }
        check.due("some lines", lines > 20, true);
    }

    private void everyCall() throws IOException {
        check.part("README.md tells of every call");
        String readme = Files.readString(Path.of("README.md"));
        for (Method method : ThreePhaseGroup.class.getDeclaredMethods()) {
            if (Modifier.isPublic(method.getModifiers())) {
                check.due(method.getName(), readme.contains("`" + method.getName() + "("), true);
            }
        }
    }
}
