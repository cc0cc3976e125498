import java.io.File;
import java.io.IOException;
import java.lang.reflect.Method;
import java.lang.reflect.Modifier;
import java.nio.file.FileVisitResult;
import java.nio.file.Files;
import java.nio.file.Path;
import java.nio.file.SimpleFileVisitor;
import java.nio.file.attribute.BasicFileAttributes;
import java.util.ArrayList;
import java.util.List;
import java.util.regex.Matcher;
import java.util.regex.Pattern;

/** README.md: its example answers as it says, its commands work, and no method and no test is missing there. */
public final class ReadmeTest {
    // A call, and behind it its answer, with or without a remark.
    private static final Pattern ANSWERED = Pattern.compile("(.*)\\);\\s*// (-?\\d+|true|false)(: .*)?");

    private final Check check = new Check();
    private final List<String> readme;

    private ReadmeTest() throws IOException {
        readme = Files.readAllLines(Path.of("README.md"));
    }

    public static void main(String[] args) throws Exception {
        ReadmeTest test = new ReadmeTest();
        Path room = Files.createTempDirectory("readme");
        try {
            test.example(room);
            test.commands(room);
        } finally {
            Files.walkFileTree(room, new Remover());
        }
        test.methods();
        test.tests();
        test.check.end();
    }

    private List<List<String>> blocks(String kind) {
        List<List<String>> blocks = new ArrayList<>();
        List<String> block = null;
        for (String line : readme) {
            if (line.startsWith("```")) {
                block = line.equals("```" + kind) ? new ArrayList<>() : null;
                if (block != null) {
                    blocks.add(block);
                }
            } else if (block != null) {
                block.add(line);
            }
        }
        return blocks;
    }

    private void example(Path room) throws Exception {
        List<List<String>> blocks = blocks("java");
        check.due("java blocks", blocks.size(), 2);
        StringBuilder program = new StringBuilder("public final class Example {\n");
        blocks.get(0).forEach(line -> program.append(line).append('\n'));
        program.append("static void due(Object got, String want, String call) {\n")
            .append("if (!want.equals(String.valueOf(got))) {\n")
            .append("System.out.println(call + \" answers \" + got + \", not \" + want);\nSystem.exit(1);\n}\n}\n")
            .append("public static void main(String[] args) {\n");
        int answered = 0;
        String begun = "";
        for (String line : blocks.get(1)) {
            begun = begun.isEmpty() ? line : begun + " " + line.strip();
            Matcher call = ANSWERED.matcher(begun);
            if (call.matches()) {
                String name = call.group(1).split("\\(")[0];
                program.append("due(").append(call.group(1)).append("), \"").append(call.group(2)).append("\", \"")
                    .append(name).append("\");\n");
                answered++;
                begun = "";
            } else if (begun.endsWith(";")) {
                program.append(begun).append('\n');
                begun = "";
            }
        }
        program.append("}\n}\n");
        check.due("each line of the example is taken: " + begun, begun.isEmpty(), true);
        check.due("answers in the example", answered >= 20, true);
        Path file = room.resolve("Example.java");
        Files.writeString(file, program);
        String classes = new File(System.getProperty("java.class.path")).getAbsolutePath();
        check.due("the example compiles", run(room, "javac", "-cp", classes, "-d", ".", file.toString()), 0);
        String both = classes + File.pathSeparator + room;
        check.due("the example answers so", run(room, "java", "-cp", both, "Example"), 0);
    }

    /** In a copy of the sources, so that nothing is left behind in the project; .ci/run is what runs this. */
    private void commands(Path room) throws Exception {
        for (String directory : new String[] {"src/main/java", "src/test/java"}) {
            Files.createDirectories(room.resolve(directory));
            File[] files = new File(directory).listFiles((where, name) -> name.endsWith(".java"));
            for (File file : files == null ? new File[0] : files) {
                Files.copy(file.toPath(), room.resolve(directory).resolve(file.getName()));
            }
        }
        int commands = 0;
        for (List<String> block : blocks("sh")) {
            for (String line : block) {
                commands++;
                if (line.equals(".ci/run")) {
                    check.due(".ci/run can be run", Files.isExecutable(Path.of(".ci/run")), true);
                } else {
                    check.due(line, run(room, "sh", "-c", line), 0);
                }
            }
        }
        check.due("commands", commands, 4);
    }

    private static int run(Path where, String... command) throws Exception {
        Path said = where.resolve("said");
        Process process = new ProcessBuilder(command).directory(where.toFile()).redirectErrorStream(true)
            .redirectOutput(said.toFile()).start();
        int code = process.waitFor();
        if (code != 0) {
            System.out.println(Files.readString(said));
        }
        return code;
    }

    private void methods() {
        for (Method method : FrostLocks.class.getDeclaredMethods()) {
            if (Modifier.isPublic(method.getModifiers())) {
                int rows = 0;
                for (String line : readme) {
                    rows += line.startsWith("| `" + method.getName() + "(") ? 1 : 0;
                }
                check.due("rows of " + method.getName(), rows, 1);
            }
        }
    }

    private void tests() {
        String[] files = new File("src/test/java").list((where, name) -> name.endsWith("Test.java"));
        int named = 0;
        for (String file : files == null ? new String[0] : files) {
            String name = file.substring(0, file.length() - ".java".length());
            boolean found = readme.stream().anyMatch(line -> line.startsWith("| `" + name + "` |"));
            check.due(name + " is named", found, true);
            named++;
        }
        long rows = readme.stream().filter(line -> line.matches("\\| `\\w+Test` \\|.*")).count();
        check.due("tests that are named", rows, named);
    }

    /** Takes a directory away with all that is in it. */
    private static final class Remover extends SimpleFileVisitor<Path> {
        @Override
        public FileVisitResult visitFile(Path file, BasicFileAttributes attributes) throws IOException {
            Files.delete(file);
            return FileVisitResult.CONTINUE;
        }

        @Override
        public FileVisitResult postVisitDirectory(Path directory, IOException failure) throws IOException {
            Files.delete(directory);
            return FileVisitResult.CONTINUE;
        }
    }
}
