import java.io.IOException;
import java.lang.reflect.Field;
import java.lang.reflect.Method;
import java.lang.reflect.Modifier;
import java.nio.file.Files;
import java.nio.file.Path;
import java.util.ArrayList;
import java.util.HashSet;
import java.util.List;
import java.util.Set;
import java.util.TreeSet;
import java.util.regex.Matcher;
import java.util.regex.Pattern;

/** What can be seen of LANGUAGE.md, and that the face is the document's. */
public final class LanguageTest {
    private static final Path SOURCE = Path.of("src/main/java/SinglesPast.java");
    private static final Path DOC = Path.of("../shared/DOC.md");

    public static void main(String[] args) throws IOException {
        face();
        classes();
        source(Files.readString(SOURCE));
        Check.end();
    }

    private static void holds(String what, boolean is) {
        Check.is(what, is, true);
    }

    private static void face() throws IOException {
        Set<String> due = new TreeSet<>();
        Matcher m = Pattern.compile("    public (int|boolean|void) (\\w+)\\((.*?)\\)( throws (.*))?;").matcher(Files.readString(DOC));
        while (m.find()) {
            Set<String> thrown = new TreeSet<>(m.group(5) == null ? List.of() : List.of(m.group(5).split(", ")));
            due.add(m.group(1) + " " + m.group(2) + "(" + m.group(3).replaceAll(" \\w+(,|$)", "$1").replace(" ", "") + ")" + thrown);
        }
        Set<String> got = new TreeSet<>();
        for (Method method : SinglesPast.class.getDeclaredMethods()) {
            if (Modifier.isPublic(method.getModifiers())) {
                List<String> types = new ArrayList<>();
                for (Class<?> type : method.getParameterTypes()) {
                    types.add(type.getSimpleName());
                }
                Set<String> thrown = new TreeSet<>();
                for (Class<?> type : method.getExceptionTypes()) {
                    thrown.add(type.getSimpleName());
                }
                got.add(method.getReturnType().getSimpleName() + " " + method.getName() + "(" + String.join(",", types) + ")" + thrown);
            } else {
                holds(method + " is private", Modifier.isPrivate(method.getModifiers()));
            }
        }
        Check.is("methods of the face", got.size(), 62);
        Set<String> more = new TreeSet<>(got);
        more.removeAll(due);
        due.removeAll(got);
        holds("too many " + more + ", too few " + due, more.isEmpty() && due.isEmpty());
        holds("final", Modifier.isFinal(SinglesPast.class.getModifiers()));
        Check.is("constructors", SinglesPast.class.getConstructors().length, 1);
        Check.is("public fields", SinglesPast.class.getFields().length, 1);
    }

    private static void classes() {
        Set<String> names = new HashSet<>();
        for (Method method : SinglesPast.class.getDeclaredMethods()) {
            if (Modifier.isPublic(method.getModifiers())) {
                names.add(method.getName());
            }
        }
        List<Class<?>> all = new ArrayList<>(List.of(SinglesPast.class.getDeclaredClasses()));
        holds("some twelve classes", all.size() <= 12);
        all.add(SinglesPast.class);
        for (Class<?> type : all) {
            int fields = 0;
            for (Field field : type.getDeclaredFields()) {
                boolean constant = Modifier.isStatic(field.getModifiers());
                fields += constant ? 0 : 1;
                holds(field + " is no static state", !constant || Modifier.isFinal(field.getModifiers()));
            }
            holds(type + " has some twenty fields", fields <= 20);
            for (Method method : type.getDeclaredMethods()) {
                holds(method + " has no name of the face", !Modifier.isPrivate(method.getModifiers()) || !names.contains(method.getName()));
                holds(method + " has at most seven parameters", method.getParameterCount() <= 7);
            }
        }
    }

    private static void source(String text) {
        String bare = text.replaceAll("(?s)/\\*.*?\\*/", "").replaceAll("//[^\n]*", "").replaceAll("\"[^\"\n]*\"", "\"\"");
        for (String word : List.of("->", "::", "finally", "synchronized", "assert", "package", "hashCode", "System.out", "getMessage", "protected",
                "Throwable", "Exception", "NullPointerException", "ArrayIndexOutOfBoundsException", "ClassCastException",
                "NegativeArraySizeException", "ArrayStoreException")) {
            String quoted = Character.isLetter(word.charAt(0)) ? "\\b" + Pattern.quote(word) + "\\b" : Pattern.quote(word);
            holds("no " + word, !Pattern.compile(quoted).matcher(bare).find());
        }
        holds("no name that ends in Exact", !bare.contains("Exact("));
        Set<String> imports = new TreeSet<>();
        Matcher m = Pattern.compile("import ([\\w.*]+);").matcher(bare);
        while (m.find()) {
            imports.add(m.group(1));
        }
        imports.removeAll(Set.of("java.util.*", "java.util.Arrays", "java.util.ArrayList", "java.util.List", "java.util.Iterator",
                "java.util.NoSuchElementException"));
        holds("imports " + imports, imports.isEmpty());
        Set<String> library = new TreeSet<>();
        m = Pattern.compile("\\b(Arrays|System|Character|Objects|Collections|Thread|Runtime)\\.(\\w+)").matcher(bare);
        while (m.find()) {
            library.add(m.group());
        }
        library.removeAll(Set.of("Arrays.fill", "Arrays.copyOf", "Arrays.copyOfRange", "System.arraycopy"));
        holds("library " + library, library.isEmpty());
        holds("only ASCII", text.chars().allMatch(c -> c < 128));
        methodLengths(text);
    }

    private static void methodLengths(String text) {
        String[] lines = text.split("\n");
        int from = -1;
        String indent = "";
        for (int i = 0; i < lines.length; i++) {
            if (from < 0 && lines[i].matches("( {4}| {8})\\S.*\\) (throws .*)?\\{")) {
                from = i;
                indent = lines[i].replaceAll("\\S.*", "");
            } else if (from >= 0 && lines[i].equals(indent + "}")) {
                holds(lines[from] + " is short", i - from < 60);
                from = -1;
            }
        }
    }
}
