import java.io.ByteArrayOutputStream;
import java.io.File;
import java.io.IOException;
import java.io.InputStream;
import java.nio.file.Files;
import java.nio.file.Path;
import java.util.Arrays;
import java.util.Comparator;
import java.util.List;
import java.util.stream.Stream;
import javax.tools.JavaCompiler;
import javax.tools.ToolProvider;

/** What README.md says is so when it is followed. */
public final class ReadmeTest {
    private static final Check CHECK = new Check();

    public static void main(String[] args) throws IOException, InterruptedException {
        String page = Files.readString(Path.of("README.md"));
        example(page);
        testsNamed(page);
        commands(page);
        refusals();
        CHECK.end();
    }

    /** The text of the first block of this kind. */
    private static String block(String page, String kind) {
        String opening = "```" + kind + "\n";
        int from = page.indexOf(opening);
        int to = from < 0 ? -1 : page.indexOf("```", from + opening.length());
        CHECK.due("a block of " + kind, to > 0, true);
        return to > 0 ? page.substring(from + opening.length(), to) : "";
    }

    private static void example(String page) throws IOException, InterruptedException {
        CHECK.promise("the example");
        Path folder = Files.createTempDirectory("readme");
        try {
            Path source = folder.resolve("Example.java");
            Files.writeString(source, block(page, "java"));
            JavaCompiler compiler = ToolProvider.getSystemJavaCompiler();
            CHECK.due("a compiler is there", compiler != null, true);
            if (compiler == null) {
                return;
            }
            String path = System.getProperty("java.class.path");
            int code = compiler.run(null, null, null, "-cp", path, "-d", folder.toString(), source.toString());
            CHECK.due("javac Example.java", code, 0);
            String printed = run(path + File.pathSeparator + folder, "Example");
            sameLines(printed, block(page, "text"));
        } finally {
            remove(folder);
        }
    }

    private static String run(String path, String name) throws IOException, InterruptedException {
        String java = Path.of(System.getProperty("java.home"), "bin", "java").toString();
        Process process = new ProcessBuilder(java, "-cp", path, name).redirectErrorStream(true).start();
        ByteArrayOutputStream all = new ByteArrayOutputStream();
        try (InputStream out = process.getInputStream()) {
            out.transferTo(all);
        }
        CHECK.due("java " + name, process.waitFor(), 0);
        return all.toString();
    }

    private static void sameLines(String printed, String promised) {
        List<String> got = Arrays.asList(printed.split("\\R"));
        List<String> want = Arrays.asList(promised.split("\\R"));
        CHECK.due("lines", got.size(), want.size());
        for (int i = 0; i < Math.min(got.size(), want.size()); i++) {
            CHECK.due("'" + got.get(i) + "' is '" + want.get(i) + "'", got.get(i).equals(want.get(i)), true);
        }
    }

    private static void remove(Path folder) throws IOException {
        try (Stream<Path> files = Files.walk(folder)) {
            for (Path file : files.sorted(Comparator.reverseOrder()).toList()) {
                Files.delete(file);
            }
        }
    }

    private static void testsNamed(String page) throws IOException {
        CHECK.promise("the list of tests");
        try (Stream<Path> files = Files.list(Path.of("src/test/java"))) {
            for (Path file : files.sorted().toList()) {
                String name = file.getFileName().toString();
                if (name.endsWith("Test.java")) {
                    String test = name.substring(0, name.length() - ".java".length());
                    CHECK.due(test + " is told of", page.contains("`" + test + "`"), true);
                }
            }
        }
    }

    /** Each path that a command of the page names is there. */
    private static void commands(String page) {
        CHECK.promise("the commands");
        CHECK.due(".ci/run can be run", Files.isExecutable(Path.of(".ci/run")), true);
        CHECK.due(".ci/run is told of", page.contains("\n.ci/run\n"), true);
        for (String each : new String[] {"src/main/java/SaltFarm.java", "src/test/java", "../shared/DOC.md",
            "../shared/LANGUAGE.md", "../shared/tests"}) {
            CHECK.due(each + " is told of", page.contains(each), true);
            CHECK.due(each + " is there", Files.exists(Path.of(each)), true);
        }
    }

    /** What the page says of calls that are refused, where the other tests don't look at it in these words. */
    private static void refusals() {
        CHECK.promise("what is refused");
        SaltFarm farm = Farms.withProvinces(1);
        farm.store(0, 0);
        CHECK.granted(farm, "counted(0, 1), which is -1 and not refused", farm.counted(0, 1), -1);
        CHECK.refused(farm, "counted(1, 1)", farm.counted(1, 1), -1, 1);
        asksOnly(farm);
        CHECK.due("trouble() behind calls that only ask", farm.trouble(), 1);
        for (int i = 0; i < 15; i++) {
            farm.feed(0, 0, 0, 0, 0);
        }
        CHECK.due("feed() onto a full tape", farm.feed(0, 0, 0, 0, 0), SaltFarm.NONE);
        CHECK.due("count(5)", farm.count(5), 300);
        CHECK.due("trouble() behind feed()", farm.trouble(), 1);
        CHECK.refused(farm, "edict(0, 0, 300)", farm.edict(0, 0, 300), -1, 4);
        CHECK.due("count(5) behind a fault", farm.count(5), 0);
    }

    private static void asksOnly(SaltFarm farm) {
        long[] none = {farm.force(1, 0), farm.price(1, 0, false), farm.brought(0, 1), farm.cheap(1), farm.source(1),
            farm.taken(1), farm.carried(0), farm.way(1), farm.wayAt(0, 0), farm.stand(0), farm.count(7), farm.where()};
        for (int i = 0; i < none.length; i++) {
            CHECK.due("asked for what isn't there, " + i, none[i], SaltFarm.NONE);
        }
        CHECK.due("missing(1)", farm.missing(1), 0);
        CHECK.due("force(0, 0)", farm.force(0, 0), -2);
        CHECK.due("worst()", farm.worst(), -2);
        farm.crown();
        farm.lost();
        farm.fault();
    }
}
