import java.io.File;
import java.io.IOException;
import java.lang.reflect.InvocationTargetException;
import java.lang.reflect.Method;
import java.lang.reflect.Modifier;
import java.nio.charset.StandardCharsets;
import java.nio.file.Files;
import java.nio.file.Path;
import java.util.ArrayList;
import java.util.Arrays;
import java.util.List;
import java.util.Set;
import java.util.TreeSet;
import java.util.regex.Matcher;
import java.util.regex.Pattern;

/** README.md: its commands run, its example answers as it says, its list of calls that need no setup is whole. */
final class ReadmeTest {
    private static final Pattern PRINTS = Pattern.compile("(?m)^ *System\\.out\\.println\\(.*\\); +// (.*)$");
    private static final Pattern SHARED = Pattern.compile("\\.\\./shared/tests/\\w+\\.java");

    public static void main(String[] args) throws Exception {
        String page = Files.readString(Path.of("README.md"));
        Path folder = Files.createTempDirectory("readme");
        try {
            commands(page, folder);
        } finally {
            delete(folder.toFile());
        }
        needNoSetup(page);
        Check.end("ReadmeTest");
    }

    private static List<String> blocks(String page, String kind) {
        List<String> blocks = new ArrayList<>();
        Matcher block = Pattern.compile("(?s)```" + kind + "\n(.*?)```").matcher(page);
        while (block.find()) {
            blocks.add(block.group(1));
        }
        return blocks;
    }

    private static void commands(String page, Path folder) throws Exception {
        List<String> examples = blocks(page, "java");
        Check.same("README.md shows one example", examples.size(), 1);
        Files.writeString(folder.resolve("Example.java"), String.join("", examples));
        List<String> heads = new ArrayList<>();
        for (String command : blocks(page, "sh")) {
            String name = command.trim().replaceAll("(?s).* ", "");
            heads.add(name);
            if (name.equals(".ci/run")) {
                // It runs this very test, so it can only be looked at.
                Check.same(name + " can be run", Files.isExecutable(Path.of(name)), true);
            } else if (namesWhatIsThere(command)) {
                String due = name.equals("Example") ? printed(examples) : null;
                run(name, command.replace("/tmp/loom", folder.toString()), due);
            }
        }
        Check.same("the commands", heads.toString(), "[Example, .ci/run, DeckTest, CardLoomRuns]");
    }

    /** The tests under ../shared come and go without this project's doing. */
    private static boolean namesWhatIsThere(String command) {
        Matcher shared = SHARED.matcher(command);
        return !shared.find() || Files.exists(Path.of(shared.group()));
    }

    private static String printed(List<String> examples) {
        StringBuilder printed = new StringBuilder();
        Matcher line = PRINTS.matcher(String.join("", examples));
        while (line.find()) {
            printed.append(line.group(1).replaceAll(": .*", "")).append('\n');
        }
        return printed.toString();
    }

    private static void run(String name, String command, String due) throws Exception {
        Process process = new ProcessBuilder("sh", "-c", command).redirectErrorStream(true).start();
        process.getOutputStream().close();
        String output = new String(process.getInputStream().readAllBytes(), StandardCharsets.UTF_8);
        Check.same(name + " ends with 0, having said " + output, process.waitFor(), 0);
        if (due != null) {
            Check.same(name + " prints something", due.length() > 0, true);
            Check.same(name, output, due);
        }
    }

    private static void delete(File file) {
        File[] inside = file.listFiles();
        for (File each : inside == null ? new File[0] : inside) {
            delete(each);
        }
        file.delete();
    }

    // ---- calls that need no setup

    private static void needNoSetup(String page) throws Exception {
        Matcher row = Pattern.compile("every method before a setup is loaded, except ([^;]*);").matcher(page);
        Check.same("the calls without a setup are listed", row.find(), true);
        Set<String> listed = new TreeSet<>(Arrays.asList(row.group(1).replace("`", "").split(", ")));
        Set<String> found = new TreeSet<>();
        for (Method method : CardLoom.class.getDeclaredMethods()) {
            if (Modifier.isPublic(method.getModifiers()) && !needsSetup(method)) {
                found.add(method.getName());
            }
        }
        Check.same("the calls without a setup", listed, found);
    }

    private static boolean needsSetup(Method method) throws IllegalAccessException {
        Object[] zeros = new Object[method.getParameterCount()];
        Arrays.fill(zeros, 0);
        try {
            method.invoke(new CardLoom(), zeros);
            return false;
        } catch (InvocationTargetException e) {
            return e.getCause() instanceof IllegalStateException;
        }
    }
}
