import java.io.IOException;
import java.io.OutputStream;
import java.io.PrintStream;
import java.lang.reflect.Field;
import java.lang.reflect.Method;
import java.lang.reflect.Modifier;
import java.net.URL;
import java.net.URLClassLoader;
import java.nio.file.Files;
import java.nio.file.Path;
import java.util.ArrayList;
import java.util.List;
import java.util.stream.Stream;
import javax.tools.ToolProvider;

/** No test asks one object more than 512 times: what later calls answer is free, so that no test may look at it. */
public final class CallsTest {
    private static final Path SOURCE = Path.of("src/main/java/SinglesPast.java");
    private static final Path TESTS = Path.of("src/test/java");
    // These tell nothing about answers, or would run themselves.
    private static final List<String> NOT_COUNTED = List.of("CallsTest", "LanguageTest");

    private CallsTest() {
    }

    public static void main(String[] args) throws Exception {
        Path work = Files.createTempDirectory("calls");
        try {
            compile(work);
            try (URLClassLoader loader = new URLClassLoader(new URL[] {work.toUri().toURL()}, ClassLoader.getPlatformClassLoader())) {
                for (String test : tests()) {
                    run(loader.loadClass(test));
                }
                Check.is("an object was asked more than 512 times", most(loader) > 512, false);
                Check.is("the calls were counted", most(loader) > 0, true);
            }
        } finally {
            remove(work);
        }
        Check.end();
    }

    /** The face alone: it counts, and the class itself, under another name, answers. */
    private static String countingFace() {
        StringBuilder s = new StringBuilder("public final class SinglesPast { public static final int NONE = -1; static int mostCalls; int calls;\n"
                + "final Answering x = new Answering();\n"
                + "void count() { calls++; mostCalls = Math.max(mostCalls, calls);\n"
                + "if (calls == 513) { new Throwable(\"the 513th call\").printStackTrace(); } }\n");
        for (Method call : SinglesPast.class.getDeclaredMethods()) {
            if (Modifier.isPublic(call.getModifiers())) {
                List<String> told = new ArrayList<>();
                List<String> passed = new ArrayList<>();
                for (Class<?> type : call.getParameterTypes()) {
                    passed.add("p" + passed.size());
                    told.add(type + " p" + told.size());
                }
                s.append("public ").append(call.getReturnType()).append(' ').append(call.getName()).append('(').append(String.join(", ", told))
                        .append(") { count(); ").append(call.getReturnType() == void.class ? "" : "return ").append("x.").append(call.getName())
                        .append('(').append(String.join(", ", passed)).append("); }\n");
            }
        }
        return s.append("}\n").toString();
    }

    private static void compile(Path work) throws IOException {
        Path face = work.resolve("SinglesPast.java");
        Files.writeString(face, countingFace());
        Path answering = work.resolve("Answering.java");
        Files.writeString(answering, Files.readString(SOURCE).replaceAll("\\bSinglesPast\\b", "Answering"));
        List<String> words = new ArrayList<>(List.of("-d", work.toString(), face.toString(), answering.toString()));
        try (Stream<Path> files = Files.list(TESTS)) {
            files.forEach(file -> words.add(file.toString()));
        }
        int failed = ToolProvider.getSystemJavaCompiler().run(null, null, null, words.toArray(new String[0]));
        Check.is("compiling the counting face", failed, 0);
    }

    private static List<String> tests() throws IOException {
        try (Stream<Path> files = Files.list(TESTS)) {
            return files.map(file -> file.getFileName().toString().replace(".java", ""))
                    .filter(name -> name.endsWith("Test") && !NOT_COUNTED.contains(name)).sorted().toList();
        }
    }

    /** What a test tells, it has told already when it ran by itself. */
    private static void run(Class<?> test) throws Exception {
        PrintStream out = System.out;
        System.setOut(new PrintStream(OutputStream.nullOutputStream()));
        try {
            test.getMethod("main", String[].class).invoke(null, (Object) new String[0]);
        } finally {
            System.setOut(out);
        }
    }

    private static int most(ClassLoader loader) throws Exception {
        Field most = loader.loadClass("SinglesPast").getDeclaredField("mostCalls");
        most.setAccessible(true);
        return most.getInt(null);
    }

    private static void remove(Path work) throws IOException {
        try (Stream<Path> files = Files.list(work)) {
            for (Path file : files.toList()) {
                Files.delete(file);
            }
        }
        Files.delete(work);
    }
}
