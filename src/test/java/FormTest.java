import java.io.DataInputStream;
import java.io.IOException;
import java.lang.reflect.Constructor;
import java.lang.reflect.Field;
import java.lang.reflect.Method;
import java.lang.reflect.Modifier;
import java.nio.file.Files;
import java.nio.file.Path;
import java.util.ArrayList;
import java.util.List;
import java.util.Map;
import java.util.Set;
import java.util.TreeSet;
import java.util.regex.Matcher;
import java.util.regex.Pattern;

/** The public face, and the rules of LANGUAGE.md that a look at the class, its file or what it refers to can see. */
public final class FormTest {
    private static final Due DUE = new Due("FormTest");
    private static final Path SOURCE = Path.of("src/main/java/AlikeArrows.java");
    // "Some twelve classes", "some twenty fields", "some sixty lines".
    private static final int MOST_CLASSES = 12, MOST_FIELDS = 20, MOST_LINES = 60;
    private static final String[] FACE = {
        "int type(long,int)", "int clear()", "int arrows()", "int stick(int,int)", "int bow(int,int)", "int archer(int,int)",
        "int tune(int,int)", "int cut(int)", "int scrape(int)", "int load(int)", "int turn(int)",
        "int least(int,int,int,int,int)", "int flight(int,int,int)", "int band(int,int,int,int)", "int says(int,int,int)",
        "int alike(int,int,int,int)", "int turned(int,int,int)", "int wreck(int,int,int)", "int feather(int,int,int)",
        "int warm(int,int,int)", "int shoot(int,int,int)", "int shot(int,int)", "int wipe()", "int parted()",
        "int spread(int)", "int out(int,int)", "int lot(int)", "int rate(int,int)", "int keep(int)", "int back(int)",
        "int count(int)", "long trace()"};
    private static final Map<String, String> LIBRARY = Map.ofEntries(
        Map.entry("java/lang/String", "<init> length charAt isEmpty equals indexOf substring toCharArray"),
        Map.entry("java/lang/StringBuilder", "<init> append charAt setCharAt setLength deleteCharAt reverse length toString"),
        Map.entry("java/util/ArrayList", "<init> add get set remove size isEmpty clear iterator"),
        Map.entry("java/util/List", "add get set remove size isEmpty clear iterator of"),
        Map.entry("java/util/Iterator", "hasNext next"),
        Map.entry("java/lang/Iterable", "iterator"),
        Map.entry("java/lang/Comparable", "compareTo"),
        Map.entry("java/lang/System", "arraycopy"),
        Map.entry("java/util/Arrays", "copyOf copyOfRange fill"),
        Map.entry("java/lang/Object", "<init>"),
        Map.entry("java/lang/Enum", "<init> ordinal valueOf"),
        Map.entry("java/lang/Record", "<init>"));
    private static final Set<String> FREE = Set.of("java/lang/Integer", "java/lang/Long", "java/lang/Math");

    public static void main(String[] args) throws IOException {
        face();
        List<Class<?>> all = allClasses(AlikeArrows.class);
        privateNames(all);
        classesInside(all);
        staticFields(all);
        sizes(all);
        DUE.sentence("rule 4: the library: only what stands there");
        for (Class<?> c : all) library(c);
        DUE.sentence("rule 3: texts and constants hold signs that a file of plain letters has");
        Files.readString(SOURCE).chars().filter(sign -> sign > 127).forEach(sign -> DUE.is("sign", sign, 0));
        words();
        lines();
        DUE.end();
    }

    private static List<Class<?>> allClasses(Class<?> outer) {
        List<Class<?>> all = new ArrayList<>();
        all.add(outer);
        for (Class<?> c : outer.getDeclaredClasses()) all.addAll(allClasses(c));
        return all;
    }

    private static void face() {
        DUE.sentence("rule 1: the class public and final, with the public constructor, methods and constants and no other");
        Set<String> found = new TreeSet<>();
        for (Method m : AlikeArrows.class.getDeclaredMethods()) {
            if (Modifier.isPrivate(m.getModifiers())) continue;
            List<String> types = new ArrayList<>();
            for (Class<?> type : m.getParameterTypes()) types.add(type.getName());
            found.add(m.getReturnType().getName() + " " + m.getName() + "(" + String.join(",", types) + ")");
            DUE.is("public alone: " + m, m.getModifiers(), Modifier.PUBLIC);
        }
        for (String call : FACE) DUE.is("has " + call, found.contains(call) ? 1 : 0, 1);
        DUE.is("how many methods", found.size(), FACE.length);
        DUE.is("the class", AlikeArrows.class.getModifiers(), Modifier.PUBLIC | Modifier.FINAL);
        Constructor<?>[] makers = AlikeArrows.class.getDeclaredConstructors();
        DUE.is("constructors", makers.length, 1);
        DUE.is("its parameters", makers[0].getParameterCount(), 0);
        DUE.is("the constructor is public", makers[0].getModifiers(), Modifier.PUBLIC);
        Set<String> open = new TreeSet<>();
        for (Field f : AlikeArrows.class.getDeclaredFields()) {
            if (Modifier.isPrivate(f.getModifiers())) continue;
            open.add(f.getName());
            DUE.is("a constant: " + f, f.getModifiers(), Modifier.PUBLIC | Modifier.STATIC | Modifier.FINAL);
        }
        DUE.is("constants are " + open, open.equals(Set.of("BAD", "STATE", "FULL", "NONE", "NO")) ? 1 : 0, 1);
    }

    private static void privateNames(List<Class<?>> all) {
        DUE.sentence("rule 1: no private method bears the name of a public one");
        Set<String> names = new TreeSet<>();
        for (String call : FACE) names.add(call.substring(call.indexOf(' ') + 1, call.indexOf('(')));
        for (Class<?> c : all) {
            for (Method m : c.getDeclaredMethods()) {
                if (Modifier.isPrivate(m.getModifiers())) DUE.is("private " + m, names.contains(m.getName()) ? 1 : 0, 0);
            }
        }
    }

    private static void classesInside(List<Class<?>> all) {
        DUE.sentence("rules 1 and 2: classes inside are private or package-visible and static");
        for (Class<?> c : all) {
            if (c == AlikeArrows.class) continue;
            DUE.is("static: " + c, Modifier.isStatic(c.getModifiers()) ? 1 : 0, 1);
            DUE.is("not public: " + c, c.getModifiers() & (Modifier.PUBLIC | Modifier.PROTECTED), 0);
        }
    }

    private static void staticFields(List<Class<?>> all) {
        DUE.sentence("rule 5: static fields are final, and are numbers, texts, rows of numbers or an enum's constants");
        Set<Class<?>> types = Set.of(int.class, long.class, boolean.class, char.class, String.class,
            int[].class, long[].class, char[].class, byte[].class);
        for (Class<?> c : all) {
            for (Field f : c.getDeclaredFields()) {
                if (!Modifier.isStatic(f.getModifiers())) continue;
                DUE.is("final: " + f, Modifier.isFinal(f.getModifiers()) ? 1 : 0, 1);
                Class<?> part = f.getType().isArray() ? f.getType().getComponentType() : f.getType();
                DUE.is("type of " + f, types.contains(f.getType()) || part.isEnum() ? 1 : 0, 1);
            }
        }
    }

    private static void sizes(List<Class<?>> all) {
        DUE.sentence("rule 11: at most seven parameters, some twelve classes, some twenty fields beside its constants");
        DUE.is("classes " + all.size(), all.size() <= MOST_CLASSES ? 1 : 0, 1);
        for (Class<?> c : all) {
            int fields = 0;
            for (Field f : c.getDeclaredFields()) {
                if (!Modifier.isStatic(f.getModifiers())) fields++;
            }
            DUE.is("fields of " + c, fields <= MOST_FIELDS ? 1 : 0, 1);
            for (Method m : c.getDeclaredMethods()) DUE.is("parameters of " + m, m.getParameterCount() <= 7 ? 1 : 0, 1);
            for (Constructor<?> m : c.getDeclaredConstructors()) DUE.is("parameters of " + m, m.getParameterCount() <= 7 ? 1 : 0, 1);
        }
    }

    /** Reads what the compiled class refers to: also a lambda and a text joined by + would show here. */
    private static void library(Class<?> c) throws IOException {
        String file = c.getName() + ".class";
        try (DataInputStream in = new DataInputStream(AlikeArrows.class.getResourceAsStream(file))) {
            in.skipBytes(8);
            int size = in.readUnsignedShort();
            String[] texts = new String[size];
            int[][] refs = new int[size][];
            int[] tags = new int[size];
            for (int k = 1; k < size; k++) {
                tags[k] = in.readUnsignedByte();
                switch (tags[k]) {
                    case 1 -> texts[k] = in.readUTF();
                    case 5, 6 -> {
                        in.skipBytes(8);
                        k++;
                    }
                    case 7, 8, 16, 19, 20 -> refs[k] = new int[] {in.readUnsignedShort()};
                    case 15 -> in.skipBytes(3);
                    case 9, 10, 11, 12, 17, 18 -> refs[k] = new int[] {in.readUnsignedShort(), in.readUnsignedShort()};
                    default -> in.skipBytes(4);
                }
            }
            for (int k = 1; k < size; k++) {
                if (tags[k] != 10 && tags[k] != 11) continue;
                reference(file, texts[refs[refs[k][0]][0]], texts[refs[refs[k][1]][0]]);
            }
        }
    }

    private static void reference(String file, String owner, String name) {
        boolean own = owner.startsWith("AlikeArrows") || owner.startsWith("[");
        boolean free = FREE.contains(owner) && !name.endsWith("Exact");
        boolean listed = List.of(LIBRARY.getOrDefault(owner, "").split(" ")).contains(name);
        DUE.is(file + " refers to " + owner + "." + name, own || free || listed ? 1 : 0, 1);
    }

    private static String code() throws IOException {
        return Files.readString(SOURCE).replaceAll("(?s)/\\*.*?\\*/", "").replaceAll("//[^\n]*", "");
    }

    private static void words() throws IOException {
        DUE.sentence("rules 2, 6 and 13: no throw, try, catch, lambda, clock, thread, package");
        // The arrow of a switch is none of a lambda.
        String code = code().replaceAll("\\b(case\\b[^;{}>]*|default\\s*)->", "case");
        String[] never = {"\\bthrows?\\b", "\\btry\\b", "\\bcatch\\b", "\\bsynchronized\\b", "\\bassert\\b", "->", "::", "\\bpackage\\b",
            "Exact\\b", "\\bSystem\\.(?!arraycopy)", "\\bThread\\b", "\\bRandom\\b", "\\bhashCode\\b", "\\bvolatile\\b", "\\bnative\\b"};
        for (String word : never) {
            Matcher m = Pattern.compile(word).matcher(code);
            DUE.is("has " + word, m.find() ? 1 : 0, 0);
        }
    }

    private static void lines() throws IOException {
        DUE.sentence("rule 11: methods stay short (some sixty lines)");
        String[] lines = code().split("\n");
        for (int from = 0; from < lines.length; from++) {
            // A method's first line, by the file's own indents.
            String indent = lines[from].replaceAll("\\S.*", "");
            if (!lines[from].matches(" {4,8}[\\w<>\\[\\] ]+\\(.*\\) \\{") || lines[from].matches("\\s*(if|for|while|switch|do)\\b.*")) continue;
            int to = from;
            while (to < lines.length && !lines[to].equals(indent + "}")) to++;
            DUE.is("lines of" + lines[from] + " " + (to - from + 1), to - from + 1 <= MOST_LINES ? 1 : 0, 1);
        }
    }
}
