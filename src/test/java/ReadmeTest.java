import java.io.IOException;
import java.nio.file.Files;
import java.nio.file.Path;
import java.util.Set;
import java.util.TreeSet;
import java.util.regex.Matcher;
import java.util.regex.Pattern;

/** What README.md says of the calls: each one answers, in its order, as it stands there. */
public final class ReadmeTest {
    private static final Due DUE = new Due();
    private static final Pattern LINE = Pattern.compile("(?m)^    room\\.(\\w+\\([^)]*\\)); +// (-?\\d+): .+$");

    public static void main(String[] args) throws IOException {
        String readme = Files.readString(Path.of("README.md"));
        answersAsTold(readme);
        DUE.is("each line of a call in README.md tells an answer",
                times("(?m)^ +room\\.", readme), times(LINE.pattern(), readme));
        DUE.is("README.md names .ci/run, by which the tests are run", times("(?m)^    \\.ci/run$", readme), 1);
        eachTestIsNamed(readme);
        DUE.end();
    }

    private static void answersAsTold(String readme) {
        PlateRoom room = new PlateRoom();
        Set<String> used = new TreeSet<>();
        Matcher line = LINE.matcher(readme);
        while (line.find()) {
            Call call = Call.of(line.group(1));
            used.add(call.name());
            DUE.is("in README.md: " + call, call.on(room), Long.parseLong(line.group(2)));
        }
        DUE.is("methods of the face that README.md uses: " + used, used.size(), 24);
    }

    private static void eachTestIsNamed(String readme) throws IOException {
        try (var files = Files.newDirectoryStream(Path.of("src/test/java"), "*Test.java")) {
            for (Path file : files) {
                String name = file.getFileName().toString().replace(".java", "");
                DUE.is("README.md names " + name, times("`" + name + "`", readme) > 0 ? 1 : 0, 1);
            }
        }
    }

    private static int times(String pattern, String text) {
        return (int) Pattern.compile(pattern).matcher(text).results().count();
    }
}
