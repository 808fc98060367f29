import java.io.IOException;
import java.lang.reflect.Constructor;
import java.lang.reflect.Field;
import java.lang.reflect.Method;
import java.lang.reflect.Modifier;
import java.nio.file.Files;
import java.nio.file.Path;
import java.util.ArrayList;
import java.util.HashMap;
import java.util.HashSet;
import java.util.List;
import java.util.Map;
import java.util.Set;
import java.util.TreeSet;
import java.util.regex.Matcher;
import java.util.regex.Pattern;

/** What can be seen of LANGUAGE.md's rules in the source and in the class: a help, not a proof. */
public final class LanguageRules {
    /** The document's face: each call as it stands there, without its parameters' names, and the names alone. */
    private static final Set<String> FACE = new TreeSet<>();
    private static final Set<String> NAMES = new TreeSet<>();
    private static int wrong;

    public static void main(String[] args) throws IOException {
        String source = stripped(Files.readString(Path.of(args.length > 0 ? args[0] : "src/main/java/WhoBacks.java")));
        readFace(Files.readString(Path.of("../shared/DOC.md")));
        face();
        classes();
        words(source);
        methods(source);
        System.out.println("LanguageRules: " + wrong + " not kept");
        if (wrong != 0) System.exit(1);
    }

    private static void fault(int rule, String what) {
        wrong++;
        System.out.println("rule " + rule + ": " + what);
    }

    private static String stripped(String s) {
        s = s.replaceAll("(?s)/\\*.*?\\*/", "").replaceAll("//[^\n]*", "");
        return s.replaceAll("\"[^\"\n]*\"", "\"\"").replaceAll("'[^'\n]'", "0");
    }

    private static void readFace(String document) {
        Matcher m = Pattern.compile("(?m)^    public (\\w+) (\\w+)\\(([^)]*)\\)( throws [^;]*)?;$").matcher(document);
        while (m.find()) {
            String types = m.group(3).replaceAll(" \\w+(?=,|$)", "");
            FACE.add(m.group(1) + " " + m.group(2) + "(" + types + ")" + (m.group(4) == null ? "" : m.group(4)));
            NAMES.add(m.group(2));
        }
        if (FACE.size() != 38 - 1 || NAMES.size() != FACE.size()) fault(1, "the document's face has a call for each promise but the first: " + FACE);
    }

    private static String asTold(Method m) {
        List<String> types = new ArrayList<>();
        for (Class<?> type : m.getParameterTypes()) types.add(type.getSimpleName());
        List<String> thrown = new ArrayList<>();
        for (Class<?> type : m.getExceptionTypes()) thrown.add(type.getSimpleName());
        String call = m.getReturnType().getSimpleName() + " " + m.getName() + "(" + String.join(", ", types) + ")";
        return call + (thrown.isEmpty() ? "" : " throws " + String.join(", ", thrown)) + (Modifier.isStatic(m.getModifiers()) ? " static" : "");
    }

    private static void face() {
        Class<?> c = WhoBacks.class;
        if (!Modifier.isFinal(c.getModifiers()) || !Modifier.isPublic(c.getModifiers())) fault(1, "the class is public and final");
        Set<String> open = new TreeSet<>();
        for (Method m : c.getDeclaredMethods()) {
            if (Modifier.isPublic(m.getModifiers())) open.add(asTold(m));
            else if (!Modifier.isPrivate(m.getModifiers())) fault(1, "visible: " + m);
        }
        if (!open.equals(FACE)) fault(1, "the face is " + open);
        for (Constructor<?> k : c.getDeclaredConstructors()) {
            if (!Modifier.isPublic(k.getModifiers()) || k.getParameterCount() != 0) fault(1, "constructor " + k);
        }
        for (Field f : c.getDeclaredFields()) if (!Modifier.isPrivate(f.getModifiers())) fault(1, "visible: " + f);
    }

    private static void classes() {
        List<Class<?>> all = new ArrayList<>(List.of(WhoBacks.class.getDeclaredClasses()));
        if (all.size() > 12) fault(11, "classes: " + all.size());
        for (Class<?> c : all) {
            if (!Modifier.isStatic(c.getModifiers())) fault(1, "not static: " + c);
            for (Method m : c.getDeclaredMethods()) {
                if (NAMES.contains(m.getName())) fault(1, "bears the name of a public one: " + m);
            }
        }
        all.add(WhoBacks.class);
        for (Class<?> c : all) {
            int fields = 0;
            for (Field f : c.getDeclaredFields()) {
                boolean constant = Modifier.isStatic(f.getModifiers());
                if (constant && !Modifier.isFinal(f.getModifiers())) fault(5, "not final: " + f);
                if (!constant) fields++;
            }
            if (fields > 20) fault(11, fields + " fields: " + c);
            for (Method m : c.getDeclaredMethods()) {
                if (m.getParameterCount() > 7) fault(11, "parameters: " + m);
                if (Modifier.isPrivate(m.getModifiers()) && NAMES.contains(m.getName())) fault(1, "private: " + m);
            }
        }
    }

    private static void words(String source) {
        String[] never = { "import", "package", "finally", "synchronized", "assert", "Exact", "System.out", "getMessage", "hashCode", "toString", "Object",
            "Thread", "Random", "nanoTime", "currentTimeMillis", "Arrays", "Collections", "Map", "Set", "Byte", "Short", "Character", "var ", "yield " };
        for (String word : never) {
            if (Pattern.compile("(?<![A-Za-z])" + Pattern.quote(word.trim()) + "(?![A-Za-z(])" + (word.endsWith(" ") ? " " : "")).matcher(source).find()) fault(4, "uses " + word);
        }
        if (source.contains("->") || source.contains("::")) fault(2, "a lambda or a method reference");
        Matcher caught = Pattern.compile("catch \\((\\w+) ").matcher(source);
        while (caught.find()) {
            if (!Set.of("IllegalStateException", "IllegalArgumentException", "UnsupportedOperationException").contains(caught.group(1))) fault(6, "catches " + caught.group(1));
        }
        Matcher thrown = Pattern.compile("throw (?!new (IllegalStateException|IllegalArgumentException|UnsupportedOperationException)\\(\"\"\\);)").matcher(source);
        if (thrown.find()) fault(6, "throws otherwise");
        Matcher library = Pattern.compile("\\b(System|Math|Integer)\\.(\\w+)").matcher(source);
        while (library.find()) {
            if (!Set.of("arraycopy", "min", "max", "bitCount").contains(library.group(2))) fault(4, "uses " + library.group());
        }
        for (int i = 0; i < source.length(); i++) if (source.charAt(i) > 126) fault(4, "a sign beyond 126 at " + i);
    }

    /** Methods by their names: how long they are, and how deep calls go (a name in several classes is one). */
    private static void methods(String source) {
        Map<String, Set<String>> calls = new HashMap<>();
        Map<String, String> bodies = new HashMap<>();
        Matcher m = Pattern.compile("(?m)^ {4,8}(?:[a-z]+ )*(?:[A-Za-z\\[\\]]+ )?(\\w+)\\([^()]*\\)(?: throws [\\w, ]+)? \\{$").matcher(source);
        while (m.find()) {
            String indent = source.substring(source.lastIndexOf('\n', m.start() + 1) + 1).replaceAll("(?s)\\S.*", "");
            int end = source.indexOf("\n" + indent + "}\n", m.end());
            String body = source.substring(m.end(), end);
            int lines = body.split("\n").length;
            if (lines > 60) fault(11, m.group(1) + " has " + lines + " lines");
            bodies.merge(m.group(1), body, String::concat);
        }
        if (bodies.size() < 60) fault(11, "too few methods were seen: " + bodies.keySet());
        for (Map.Entry<String, String> e : bodies.entrySet()) {
            Set<String> called = new HashSet<>();
            Matcher c = Pattern.compile("(\\w+)\\(").matcher(e.getValue());
            while (c.find()) if (bodies.containsKey(c.group(1)) && !c.group(1).equals(e.getKey())) called.add(c.group(1));
            calls.put(e.getKey(), called);
        }
        for (String name : calls.keySet()) {
            List<String> longest = deepest(name, calls, new ArrayList<>());
            if (longest.size() > 7) fault(11, "calls go deeper than seven (one less than the rule's eight): " + longest);
        }
    }

    private static List<String> deepest(String name, Map<String, Set<String>> calls, List<String> open) {
        if (open.contains(name)) {
            fault(8, "recursion: " + open + " " + name);
            return List.of();
        }
        open.add(name);
        List<String> best = List.of();
        for (String next : calls.get(name)) {
            List<String> deeper = deepest(next, calls, open);
            if (deeper.size() > best.size()) best = deeper;
        }
        open.remove(name);
        List<String> all = new ArrayList<>(List.of(name));
        all.addAll(best);
        return all;
    }
}
