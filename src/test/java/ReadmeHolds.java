import java.io.IOException;
import java.io.InputStream;
import java.lang.reflect.Method;
import java.lang.reflect.Modifier;
import java.nio.charset.StandardCharsets;
import java.nio.file.Files;
import java.nio.file.Path;
import java.util.ArrayList;
import java.util.Comparator;
import java.util.List;
import java.util.TreeSet;
import java.util.regex.Matcher;
import java.util.regex.Pattern;
import java.util.stream.Stream;

/** Does what README.md says, in a folder of its own beside which src stands: its program prints what the page shows. */
public final class ReadmeHolds {
    private static int wrong;

    public static void main(String[] args) throws IOException, InterruptedException {
        String page = Files.readString(Path.of("README.md"));
        Path folder = Files.createTempDirectory("readme");
        try {
            Files.createSymbolicLink(folder.resolve("src"), Path.of("src").toAbsolutePath());
            example(page, folder);
            oneTest(page, folder);
        } finally {
            remove(folder);
        }
        ciRun(page);
        calls(page);
        System.out.println("ReadmeHolds: " + wrong + " not as the page says");
        if (wrong != 0) System.exit(1);
    }

    private static void fault(String what) {
        wrong++;
        System.out.println(what);
    }

    private static void example(String page, Path folder) throws IOException, InterruptedException {
        Files.writeString(folder.resolve("Example.java"), block(page, "java", 0));
        String printed = printedBy(block(page, "sh", 0), folder);
        if (!printed.equals(block(page, "text", 0))) fault("the example prints\n" + printed);
    }

    private static void oneTest(String page, Path folder) throws IOException, InterruptedException {
        String printed = printedBy(block(page, "sh", 2), folder);
        if (!printed.matches("Refusals: \\d+ answers as due, 0 not\n")) fault("one test alone prints\n" + printed);
    }

    /** To run it here would never end: that it is there and may be run is all that is looked at. */
    private static void ciRun(String page) {
        if (!block(page, "sh", 1).equals(".ci/run\n")) fault("the page tells otherwise how all tests are run");
        if (!Files.isExecutable(Path.of(".ci/run"))) fault(".ci/run can't be run");
    }

    private static void calls(String page) {
        TreeSet<String> told = new TreeSet<>();
        Matcher row = Pattern.compile("(?m)^\\| [^`|]+ \\| (`.*`) \\|$").matcher(page);
        while (row.find()) told.addAll(List.of(row.group(1).replace("`", "").split(" ")));
        TreeSet<String> face = new TreeSet<>();
        for (Method m : WhoBacks.class.getDeclaredMethods()) if (Modifier.isPublic(m.getModifiers())) face.add(m.getName());
        if (!told.equals(face)) fault("the page's calls are " + told + ", the face is " + face);
    }

    private static String block(String page, String language, int which) {
        Matcher m = Pattern.compile("(?s)```" + language + "\n(.*?)```").matcher(page);
        for (int i = 0; m.find(); i++) if (i == which) return m.group(1);
        fault("the page has no block " + which + " of " + language);
        return "";
    }

    private static String printedBy(String commands, Path folder) throws IOException, InterruptedException {
        ProcessBuilder shell = new ProcessBuilder("bash", "-e", "-c", commands).directory(folder.toFile());
        // what Java itself tells there (of its settings, say) is not the program's
        Process process = shell.redirectError(ProcessBuilder.Redirect.INHERIT).start();
        process.getOutputStream().close();
        try (InputStream in = process.getInputStream()) {
            String printed = new String(in.readAllBytes(), StandardCharsets.UTF_8);
            int code = process.waitFor();
            if (code != 0) fault("exit code " + code + " of\n" + commands);
            return printed;
        }
    }

    private static void remove(Path folder) throws IOException {
        List<Path> all = new ArrayList<>();
        try (Stream<Path> files = Files.walk(folder)) {
            files.sorted(Comparator.reverseOrder()).forEach(all::add);
        }
        for (Path file : all) Files.delete(file);
    }
}
