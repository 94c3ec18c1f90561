import java.io.IOException;
import java.lang.reflect.Method;
import java.lang.reflect.Modifier;
import java.nio.file.Files;
import java.nio.file.Path;

/** The example of README.md answers as it says there, and README.md names every call of the face. */
public final class ReadmeTest {
    private static final Checks CHECKS = new Checks();

    public static void main(String[] args) throws IOException {
        String readme = Files.readString(Path.of("README.md"));
        StampWorks works = new StampWorks();
        answers(readme, "int box = works.addBox();", works.addBox(), 0);
        answers(readme, "works.hang(box, 40, 3);", works.hang(0, 40, 3), 1);
        answers(readme, "works.bring(1000, 120, 4);", works.bring(1000, 120, 4), 1);
        answers(readme, "works.run(24);", works.run(24), 960);
        answers(readme, "works.wash(0, 60);", works.wash(0, 60), 80);
        answers(readme, "works.smelt(50);", works.smelt(50), 20);
        for (Method method : StampWorks.class.getDeclaredMethods()) {
            if (Modifier.isPublic(method.getModifiers())) {
                CHECKS.due("README.md names " + method.getName(), readme.contains("`" + method.getName() + "("), true);
            }
        }
        CHECKS.end();
    }

    /** Behind a call of the example stands its answer, up to the first semicolon. */
    private static void answers(String readme, String call, int got, int due) {
        CHECKS.due(call, got, due);
        boolean told = readme.lines().anyMatch(line -> line.matches("\\Q" + call + "\\E +// " + due + ";.*"));
        CHECKS.due("README.md tells " + due + " behind " + call, told, true);
    }
}
