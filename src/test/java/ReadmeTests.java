import java.io.File;
import java.io.IOException;
import java.net.URL;
import java.net.URLClassLoader;
import java.nio.file.Files;
import java.nio.file.Path;
import java.util.ArrayList;
import java.util.List;
import java.util.Set;
import java.util.TreeSet;
import java.util.regex.Matcher;
import java.util.regex.Pattern;
import javax.tools.ToolProvider;

/** README.md: its examples answer what stands beside them, its commands run, and it names the suites that there are. */
public final class ReadmeTests {
    private static final Due DUE = new Due("ReadmeTests");
    private static final String NEW_OBJECT = "StateChannels x = new StateChannels();";
    /** Each line of an example but the first: a call, perhaps kept under a name, and what is due. */
    private static final Pattern CALL = Pattern.compile("(int (\\w+) = )?(x\\.\\w+\\([^;]*\\)); +// (-?\\d+)\\b.*");
    private static final Pattern SUITE = Pattern.compile("`(\\w+Tests)`");
    private static final String ALL_TESTS = ".ci/run";

    public static void main(String[] args) throws Exception {
        String readme = Files.readString(Path.of("README.md"));
        List<String> examples = blocks(readme, "java");
        DUE.part("examples");
        DUE.holds("there are some", !examples.isEmpty());
        for (int i = 0; i < examples.size(); i++) {
            checkExample("Example" + i, examples.get(i).split("\n"));
        }
        checkCommands(blocks(readme, "sh"));
        checkSuites(readme);
        DUE.end();
    }

    private static List<String> blocks(String text, String kind) {
        List<String> blocks = new ArrayList<>();
        Matcher matcher = Pattern.compile("^```" + kind + "\n(.*?)^```$", Pattern.MULTILINE | Pattern.DOTALL).matcher(text);
        while (matcher.find()) {
            blocks.add(matcher.group(1).trim());
        }
        return blocks;
    }

    private static void checkExample(String name, String[] lines) throws Exception {
        DUE.holds(name + " begins with a new object", lines[0].equals(NEW_OBJECT));
        List<String> calls = new ArrayList<>();
        List<Integer> due = new ArrayList<>();
        StringBuilder body = new StringBuilder(NEW_OBJECT);
        for (int i = 1; i < lines.length; i++) {
            Matcher line = CALL.matcher(lines[i]);
            DUE.holds(name + " tells the answer of: " + lines[i], line.matches());
            if (line.matches()) {
                String kept = line.group(2) == null ? "" : "int " + line.group(2) + " = ";
                body.append(kept).append("answers[").append(calls.size()).append("] = ").append(line.group(3)).append(";\n");
                calls.add(line.group(3));
                due.add(Integer.valueOf(line.group(4)));
            }
        }
        int[] answers = answersOf(name, body.toString(), calls.size());
        for (int i = 0; i < answers.length; i++) {
            DUE.same(name + ": " + calls.get(i), answers[i], due.get(i));
        }
    }

    /** It is compiled as it stands there, so that an example which does not compile is found, too. */
    private static int[] answersOf(String name, String body, int many) throws Exception {
        Path folder = Files.createTempDirectory("readme");
        Path source = folder.resolve(name + ".java");
        Files.writeString(source, "public final class " + name + " { public static void run(int[] answers) {\n" + body + "} }\n");
        int exit = ToolProvider.getSystemJavaCompiler().run(null, null, null,
                "-cp", System.getProperty("java.class.path"), "-d", folder.toString(), source.toString());
        DUE.same("javac " + name, exit, 0);
        int[] answers = new int[many];
        if (exit == 0) {
            try (URLClassLoader loader = new URLClassLoader(new URL[] {folder.toUri().toURL()})) {
                loader.loadClass(name).getMethod("run", int[].class).invoke(null, (Object) answers);
            }
        }
        remove(folder);
        return answers;
    }

    private static void remove(Path folder) throws IOException {
        for (File file : folder.toFile().listFiles()) {
            Files.delete(file.toPath());
        }
        Files.delete(folder);
    }

    private static void checkCommands(List<String> commands) throws Exception {
        DUE.part("commands");
        DUE.holds("there are those for all tests, for one suite and for one shared test", commands.size() >= 3);
        for (String command : commands) {
            if (command.equals(ALL_TESTS)) {
                // It is what runs this suite, so it can't be run from here.
                DUE.holds(command + " can be run", Files.isExecutable(Path.of(command)));
            } else {
                DUE.same(command, exitOf(command), 0);
            }
        }
    }

    private static int exitOf(String command) throws Exception {
        Process process = new ProcessBuilder("bash", "-c", command).redirectErrorStream(true).start();
        process.getOutputStream().close();
        byte[] printed = process.getInputStream().readAllBytes();
        int exit = process.waitFor();
        if (exit != 0) {
            System.out.write(printed, 0, printed.length);
        }
        return exit;
    }

    private static void checkSuites(String readme) {
        DUE.part("suites");
        Set<String> named = new TreeSet<>();
        Matcher matcher = SUITE.matcher(readme);
        while (matcher.find()) {
            named.add(matcher.group(1));
        }
        Set<String> there = new TreeSet<>();
        for (String name : new File("src/test/java").list()) {
            if (name.endsWith("Tests.java")) {
                there.add(name.substring(0, name.length() - ".java".length()));
            }
        }
        DUE.holds("named are " + named + ", there are " + there, named.equals(there));
    }
}
