import java.io.IOException;
import java.lang.reflect.Method;
import java.lang.reflect.Modifier;
import java.nio.file.DirectoryStream;
import java.nio.file.Files;
import java.nio.file.Path;
import java.util.Set;
import java.util.TreeSet;
import java.util.regex.Matcher;
import java.util.regex.Pattern;

/** What README.md says of the class and of its tests is so. */
public final class ReadmeTest {
    private static final Path TESTS = Path.of("src/test/java");
    private static final Pattern CALL = Pattern.compile("(?m)^x\\.(\\w+)\\(([^)]*)\\);\\s*// (-?\\w+)");
    private static final Pattern ROW = Pattern.compile("(?m)^\\| ((?:\\w+Test(?:, )?)+) \\|");

    public static void main(String[] args) throws Exception {
        String readme = Files.readString(Path.of("README.md"));
        exampleAnswersAsItSays(readme);
        Check.due("the table has each test and no other", namedTests(readme).equals(testsThereAre()), true);
        testsAreRunAsItSays(readme);
        Check.end();
    }

    private static void exampleAnswersAsItSays(String readme) throws Exception {
        StripCloth x = new StripCloth();
        Set<String> called = new TreeSet<>();
        Matcher call = CALL.matcher(readme);
        while (call.find()) {
            Method method = methodNamed(call.group(1));
            Object got = method.invoke(x, numbers(call.group(2)));
            Check.due("README's x." + call.group(1) + "(" + call.group(2) + "), " + got + ", is " + call.group(3),
                    got.toString().equals(call.group(3)), true);
            called.add(call.group(1));
        }
        for (Method method : StripCloth.class.getDeclaredMethods()) {
            if (Modifier.isPublic(method.getModifiers())) {
                Check.due("README's example has " + method.getName(), called.contains(method.getName()), true);
            }
        }
    }

    private static Method methodNamed(String name) {
        for (Method method : StripCloth.class.getMethods()) {
            if (method.getName().equals(name)) {
                return method;
            }
        }
        throw new IllegalStateException("README calls " + name);
    }

    private static Object[] numbers(String told) {
        String[] each = told.isEmpty() ? new String[0] : told.split(", ");
        Object[] numbers = new Object[each.length];
        for (int k = 0; k < each.length; k++) {
            numbers[k] = Integer.decode(each[k]);
        }
        return numbers;
    }

    private static Set<String> namedTests(String readme) {
        Set<String> named = new TreeSet<>();
        Matcher row = ROW.matcher(readme);
        while (row.find()) {
            named.addAll(Set.of(row.group(1).split(", ")));
        }
        return named;
    }

    private static Set<String> testsThereAre() throws IOException {
        Set<String> tests = new TreeSet<>();
        try (DirectoryStream<Path> files = Files.newDirectoryStream(TESTS, "*Test.java")) {
            for (Path file : files) {
                tests.add(file.getFileName().toString().replace(".java", ""));
            }
        }
        return tests;
    }

    /** The words with which README tells it, and those with which .ci/run does it. */
    private static void testsAreRunAsItSays(String readme) throws IOException {
        Path script = Path.of(".ci/run");
        Check.due(".ci/run can be called", Files.isExecutable(script), true);
        String run = Files.readString(script);
        String[] readmeAndRun = {
            "    .ci/run\n", "#!/bin/sh\n",
            "src/test/java/*Test.java", "for file in src/test/java/*Test.java",
            "../shared/tests", "shared=../shared/tests\n",
            "no warning is let through", "javac -Xlint:all -Werror",
            "from any directory", "cd \"$(dirname \"$0\")/..\"",
            "a temporary directory alone", "work=$(mktemp -d)",
            "takes away again", "trap 'rm -rf \"$work\"' EXIT\n",
            "each compiled with the class by itself", "javac -d \"$work/shared-$name\" \"$main\" \"$file\"",
            "`N passed, N failed`", "echo \"$passed passed, $failed failed\"\n",
        };
        for (int k = 0; k < readmeAndRun.length; k += 2) {
            Check.due("README has " + readmeAndRun[k], readme.contains(readmeAndRun[k]), true);
            Check.due(".ci/run has " + readmeAndRun[k + 1], run.contains(readmeAndRun[k + 1]), true);
        }
    }
}
