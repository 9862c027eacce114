import java.io.IOException;
import java.lang.reflect.InvocationTargetException;
import java.lang.reflect.Method;
import java.lang.reflect.Modifier;
import java.nio.file.Files;
import java.nio.file.Path;
import java.util.ArrayList;
import java.util.List;
import java.util.regex.Matcher;
import java.util.regex.Pattern;
import javax.tools.JavaCompiler;
import javax.tools.ToolProvider;

/** The uses that README.md shows are compiled and run, and so is its way to run one test. */
public final class ReadmeTest {
    private static final Pattern BLOCK = Pattern.compile("```(\\w+)\n(.*?)```", Pattern.DOTALL);
    private static final Pattern USE = Pattern.compile("^((?:x\\.|tell\\().*?); *// *(\\S+)$", Pattern.DOTALL | Pattern.MULTILINE);

    public static void main(String[] args) throws Exception {
        String readme = Files.readString(Path.of("README.md"));
        StringBuilder helpers = new StringBuilder();
        StringBuilder uses = new StringBuilder();
        List<String> shells = new ArrayList<>();
        Matcher block = BLOCK.matcher(readme);
        while (block.find()) {
            if (block.group(1).equals("sh")) {
                shells.add(block.group(2));
            } else if (block.group(2).contains("static ")) {
                helpers.append(block.group(2));
            } else {
                uses.append(block.group(2));
            }
        }
        askThatAllCallsAreShown(uses.toString());
        runUses(helpers.toString(), uses.toString());
        Check.due("ways to run a test", shells.size(), 1);
        for (String shell : shells) {
            runShell(shell);
        }
        Check.end();
    }

    private static void askThatAllCallsAreShown(String uses) {
        for (Method method : WhalePost.class.getDeclaredMethods()) {
            if (Modifier.isPublic(method.getModifiers())) {
                Check.due(method.getName() + " is shown", uses.contains("x." + method.getName() + "("), true);
            }
        }
    }

    /** Each use becomes a comparison of what it answers with what is written behind it. */
    private static void runUses(String helpers, String uses) throws Exception {
        StringBuilder body = new StringBuilder();
        Matcher use = USE.matcher(uses);
        int count = 0;
        while (use.find()) {
            String call = use.group(1);
            String want = use.group(2);
            String told = call.split("\n")[0].replace("\\", "\\\\").replace("\"", "\\\"");
            String shown = want.equals("NoSuchElementException") ? thrower(told, call) : "Check.due(\"" + told + "\", " + call + ", " + want + ");\n";
            use.appendReplacement(body, Matcher.quoteReplacement(shown));
            count++;
        }
        use.appendTail(body);
        Check.due("uses without an answer behind them", uses.split("(?m)^(x\\.|tell\\()", -1).length - 1, count);
        String source = "public final class ReadmeUses {\n" + helpers + "public static void run() {\n" + body + "}\n}\n";
        if (compiled(source)) {
            callRun();
        }
    }

    private static String thrower(String told, String call) {
        return "{ boolean thrown = false; try { " + call + "; } catch (java.util.NoSuchElementException e) { thrown = true; }\n"
            + "Check.due(\"" + told + " throws\", thrown, true); }\n";
    }

    private static boolean compiled(String source) throws Exception {
        Path classes = Path.of(ReadmeTest.class.getProtectionDomain().getCodeSource().getLocation().toURI());
        Path file = classes.resolve("ReadmeUses.java");
        Files.writeString(file, source);
        JavaCompiler compiler = ToolProvider.getSystemJavaCompiler();
        int code = compiler.run(null, null, null, "-cp", classes.toString(), "-d", classes.toString(), file.toString());
        Check.due("the exit code of compiling the uses", code, 0);
        return code == 0;
    }

    private static void callRun() throws Exception {
        try {
            Class.forName("ReadmeUses").getMethod("run").invoke(null);
        } catch (InvocationTargetException e) {
            Check.thrown(e.getCause());
        }
    }

    private static void runShell(String shell) throws IOException, InterruptedException {
        Process process = new ProcessBuilder("bash", "-e", "-c", shell).inheritIO().start();
        Check.due("the exit code of\n" + shell, process.waitFor(), 0);
    }
}
