import java.io.IOException;
import java.lang.reflect.Constructor;
import java.lang.reflect.Field;
import java.lang.reflect.Method;
import java.lang.reflect.Modifier;
import java.nio.file.Files;
import java.nio.file.Path;
import java.util.ArrayList;
import java.util.HashSet;
import java.util.List;
import java.util.Set;
import java.util.TreeSet;
import java.util.regex.Matcher;
import java.util.regex.Pattern;

/** The public face, and the rules of LANGUAGE.md that a look at the class or a text search can see. */
public final class FormTest {
    private static final Due DUE = new Due("FormTest");
    private static final Path SOURCE = Path.of("src/main/java/AlikeArrows.java");
    private static final String[] FACE = {
        "int type(long,int)", "int clear()", "int arrows()", "int stick(int,int)", "int bow(int,int)", "int archer(int,int)",
        "int tune(int,int)", "int cut(int)", "int scrape(int)", "int load(int)", "int turn(int)",
        "int least(int,int,int,int,int)", "int flight(int,int,int)", "int band(int,int,int,int)", "int says(int,int,int)",
        "int alike(int,int,int,int)", "int turned(int,int,int)", "int wreck(int,int,int)", "int feather(int,int,int)",
        "int warm(int,int,int)", "int shoot(int,int,int)", "int shot(int,int)", "int wipe()", "int parted()",
        "int spread(int)", "int out(int,int)", "int lot(int)", "int rate(int,int)", "int keep(int)", "int back(int)",
        "int count(int)", "long trace()"};

    public static void main(String[] args) throws IOException {
        face();
        membersInside();
        source();
        DUE.end();
    }

    private static void face() {
        Set<String> found = new TreeSet<>(), faceNames = new HashSet<>(), hiddenNames = new HashSet<>();
        for (Method m : AlikeArrows.class.getDeclaredMethods()) {
            if (Modifier.isPrivate(m.getModifiers())) {
                hiddenNames.add(m.getName());
                continue;
            }
            faceNames.add(m.getName());
            List<String> types = new ArrayList<>();
            for (Class<?> type : m.getParameterTypes()) types.add(type.getName());
            found.add(m.getReturnType().getName() + " " + m.getName() + "(" + String.join(",", types) + ")");
            DUE.is("public alone: " + m, m.getModifiers(), Modifier.PUBLIC);
        }
        for (String call : FACE) DUE.is("has " + call, found.contains(call) ? 1 : 0, 1);
        DUE.is("how many methods", found.size(), FACE.length);
        hiddenNames.retainAll(faceNames);
        DUE.is("private methods with a public one's name", hiddenNames.size(), 0);
        DUE.is("the class", AlikeArrows.class.getModifiers(), Modifier.PUBLIC | Modifier.FINAL);
        Constructor<?>[] makers = AlikeArrows.class.getDeclaredConstructors();
        DUE.is("constructors", makers.length, 1);
        DUE.is("its parameters", makers[0].getParameterCount(), 0);
        DUE.is("the constructor is public", makers[0].getModifiers(), Modifier.PUBLIC);
        int open = 0;
        for (Field f : AlikeArrows.class.getDeclaredFields()) {
            if (!Modifier.isPrivate(f.getModifiers())) open++;
        }
        DUE.is("fields that are not private", open, 5);
    }

    private static void membersInside() {
        Class<?>[] inside = AlikeArrows.class.getDeclaredClasses();
        DUE.is("some twelve classes", inside.length <= 12 ? 1 : 0, 1);
        for (Class<?> c : inside) {
            DUE.is("static: " + c, Modifier.isStatic(c.getModifiers()) ? 1 : 0, 1);
            DUE.is("not public: " + c, c.getModifiers() & (Modifier.PUBLIC | Modifier.PROTECTED), 0);
            DUE.is("no class inside: " + c, c.getDeclaredClasses().length, 0);
            for (Field f : c.getDeclaredFields()) {
                boolean fine = !Modifier.isStatic(f.getModifiers()) || Modifier.isFinal(f.getModifiers());
                DUE.is("static fields are final: " + f, fine ? 1 : 0, 1);
            }
            for (Method m : c.getDeclaredMethods()) DUE.is("seven parameters: " + m, m.getParameterCount() <= 7 ? 1 : 0, 1);
        }
    }

    private static void source() throws IOException {
        String text = Files.readString(SOURCE);
        for (char sign : text.toCharArray()) {
            if (sign > 127) DUE.is("sign " + (int) sign, 1, 0);
        }
        String code = text.replaceAll("(?s)/\\*.*?\\*/", "").replaceAll("//[^\n]*", "");
        String[] never = {"\\bthrow\\b", "\\btry\\b", "\\bcatch\\b", "\\bsynchronized\\b", "\\bassert\\b", "->", "::", "\\bimport\\b",
            "\\bpackage\\b", "Exact\\b", "\\bSystem\\.(?!arraycopy)", "\\bThread\\b", "\\brandom", "\\.hashCode\\b", "\\.toString\\b",
            "\\bdouble\\b", "\\bfloat\\b"};
        for (String word : never) {
            Matcher m = Pattern.compile(word).matcher(code);
            DUE.is("has " + word, m.find() ? 1 : 0, 0);
        }
    }
}
