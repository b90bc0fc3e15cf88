import java.io.IOException;
import java.lang.reflect.Method;
import java.lang.reflect.Modifier;
import java.nio.file.Files;
import java.nio.file.Path;
import java.util.ArrayList;
import java.util.List;
import java.util.stream.Stream;

/** What README.md says: its program and its commands print what it shows, and it names every call and test. */
public final class ReadmeTest {
    private static final Path README = Path.of("README.md");
    private static final Path TESTS = Path.of("src/test/java");
    private static final String FENCE = "```";

    /** A block between fences: what it is, and its lines. */
    private record Block(String kind, String text) { }

    public static void main(String[] args) throws IOException, InterruptedException {
        String readme = Files.readString(README);
        commands(blocks(readme));
        names(readme);
        Check.end("ReadmeTest");
    }

    private static List<Block> blocks(String readme) {
        List<Block> blocks = new ArrayList<>();
        String kind = null;
        StringBuilder text = new StringBuilder();
        for (String line : readme.split("\n")) {
            if (kind == null && line.startsWith(FENCE)) {
                kind = line.substring(FENCE.length());
            } else if (line.equals(FENCE)) {
                blocks.add(new Block(kind, text.toString()));
                kind = null;
                text.setLength(0);
            } else if (kind != null) {
                text.append(line).append('\n');
            }
        }
        return blocks;
    }

    /** Runs, one after the other, the commands behind which an output is shown, in a place like the checkout. */
    private static void commands(List<Block> blocks) throws IOException, InterruptedException {
        Path place = Files.createTempDirectory("readme");
        try {
            Files.createSymbolicLink(place.resolve("src"), Path.of("src").toAbsolutePath());
            int shown = 0;
            for (int i = 0; i < blocks.size(); i++) {
                Block block = blocks.get(i);
                if (block.kind().equals("java")) {
                    Files.writeString(place.resolve("Example.java"), block.text());
                } else if (block.kind().equals("text") && i > 0 && blocks.get(i - 1).kind().equals("sh")) {
                    shown++;
                    same(blocks.get(i - 1).text(), block.text(), output(place, blocks.get(i - 1).text()));
                }
            }
            Check.due("commands of README.md that show an output", 2, shown);
        } finally {
            remove(place);
        }
    }

    private static void same(String commands, String want, String got) {
        Check.due("'" + commands + "' printed '" + got + "', README.md shows '" + want + "'; being the same", 1,
                want.equals(got) ? 1 : 0);
    }

    private static String output(Path place, String commands) throws IOException, InterruptedException {
        Process process = new ProcessBuilder("sh", "-e", "-c", commands).directory(place.toFile())
                .redirectError(ProcessBuilder.Redirect.INHERIT).start();
        String output = new String(process.getInputStream().readAllBytes());
        Check.due("exit code of '" + commands + "'", 0, process.waitFor());
        return output;
    }

    private static void remove(Path place) throws IOException {
        List<Path> all;
        try (Stream<Path> walk = Files.walk(place)) {
            all = new ArrayList<>(walk.toList());
        }
        for (int i = all.size() - 1; i >= 0; i--) {
            Files.delete(all.get(i));
        }
    }

    private static void names(String readme) throws IOException {
        for (Method method : PageInterpreter.class.getDeclaredMethods()) {
            if (Modifier.isPublic(method.getModifiers())) {
                named(readme, method.getName());
            }
        }
        try (Stream<Path> files = Files.list(TESTS)) {
            for (Path file : files.toList()) {
                String name = file.getFileName().toString();
                if (name.endsWith("Test.java")) {
                    named(readme, name.substring(0, name.length() - ".java".length()));
                }
            }
        }
        named(readme, ".ci/run");
    }

    private static void named(String readme, String what) {
        Check.due("README.md names `" + what + "`", 1, readme.contains("`" + what + "`") ? 1 : 0);
    }
}
