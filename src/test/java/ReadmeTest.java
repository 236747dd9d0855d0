import java.io.ByteArrayOutputStream;
import java.io.IOException;
import java.io.OutputStream;
import java.io.PrintStream;
import java.lang.reflect.Field;
import java.lang.reflect.Method;
import java.lang.reflect.Modifier;
import java.net.URI;
import java.nio.file.DirectoryStream;
import java.nio.file.Files;
import java.nio.file.Path;
import java.util.ArrayList;
import java.util.List;
import java.util.regex.Matcher;
import java.util.regex.Pattern;
import javax.tools.FileObject;
import javax.tools.ForwardingJavaFileManager;
import javax.tools.JavaCompiler;
import javax.tools.JavaFileManager;
import javax.tools.JavaFileObject;
import javax.tools.SimpleJavaFileObject;
import javax.tools.ToolProvider;

/** README.md: its example holds for the class as it stands, and its tables name all that there is. */
public final class ReadmeTest {
    private static final Due DUE = new Due("ReadmeTest");
    private static final Pattern PRINTED = Pattern.compile("System\\.out\\.println\\((.*)\\);(?:\\s*// (-?\\d+):.*)?");

    public static void main(String[] args) throws Exception {
        String readme = Files.readString(Path.of("README.md"));
        example(readme);
        calls(readme);
        constants(readme);
        tests(readme);
        DUE.end();
    }

    private static void example(String readme) throws Exception {
        DUE.sentence("README.md's example holds");
        Matcher block = Pattern.compile("(?s)```java\n(.*?)```").matcher(readme);
        DUE.is("there is an example", block.find() ? 1 : 0, 1);
        String source = block.group(1);
        String[] got = printed(source).split("\\R");
        Matcher line = PRINTED.matcher(source);
        int lines = 0;
        while (line.find()) {
            DUE.is(line.group(1) + " is told with its answer", line.group(2) == null ? 0 : 1, 1);
            if (line.group(2) != null && lines < got.length) {
                DUE.is(line.group(1), Long.parseLong(got[lines]), Long.parseLong(line.group(2)));
            }
            lines++;
        }
        DUE.is("how many it prints", got.length, lines);
        DUE.is("there is one example alone", block.find() ? 1 : 0, 0);
    }

    private static String printed(String source) throws Exception {
        byte[] made = compiled(source);
        DUE.is("the example compiles", made.length > 0 ? 1 : 0, 1);
        Class<?> example = new ClassLoader(ReadmeTest.class.getClassLoader()) {
            @Override
            protected Class<?> findClass(String name) throws ClassNotFoundException {
                if (!name.equals("Example")) throw new ClassNotFoundException(name);
                return defineClass(name, made, 0, made.length);
            }
        }.loadClass("Example");
        ByteArrayOutputStream bytes = new ByteArrayOutputStream();
        PrintStream before = System.out;
        System.setOut(new PrintStream(bytes, true));
        try {
            example.getMethod("main", String[].class).invoke(null, (Object) new String[0]);
        } finally {
            System.setOut(before);
        }
        return bytes.toString();
    }

    /** The example's class, kept in memory; no bytes if it does not compile. */
    private static byte[] compiled(String source) throws IOException {
        ByteArrayOutputStream bytes = new ByteArrayOutputStream();
        JavaCompiler compiler = ToolProvider.getSystemJavaCompiler();
        JavaFileObject from = new SimpleJavaFileObject(URI.create("string:///Example.java"), JavaFileObject.Kind.SOURCE) {
            @Override
            public CharSequence getCharContent(boolean ignoreErrors) {
                return source;
            }
        };
        JavaFileObject to = new SimpleJavaFileObject(URI.create("bytes:///Example.class"), JavaFileObject.Kind.CLASS) {
            @Override
            public OutputStream openOutputStream() {
                return bytes;
            }
        };
        JavaFileManager files = new ForwardingJavaFileManager<JavaFileManager>(compiler.getStandardFileManager(null, null, null)) {
            @Override
            public JavaFileObject getJavaFileForOutput(Location at, String name, JavaFileObject.Kind kind, FileObject near) {
                return to;
            }
        };
        List<String> options = List.of("-cp", System.getProperty("java.class.path"));
        boolean well = compiler.getTask(null, files, null, options, null, List.of(from)).call();
        files.close();
        return well ? bytes.toByteArray() : new byte[0];
    }

    private static void calls(String readme) {
        DUE.sentence("README.md names each call");
        for (Method m : AlikeArrows.class.getDeclaredMethods()) {
            if (Modifier.isPublic(m.getModifiers())) named(readme, m.getName());
        }
    }

    private static void constants(String readme) throws IllegalAccessException {
        DUE.sentence("README.md names each constant, with its number");
        for (Field f : AlikeArrows.class.getDeclaredFields()) {
            if (!Modifier.isPublic(f.getModifiers())) continue;
            String told = "`" + f.getName() + "` (" + f.getInt(null) + ")";
            DUE.is(told, readme.contains(told) ? 1 : 0, 1);
        }
    }

    private static void tests(String readme) throws IOException {
        DUE.sentence("README.md names each test, and none that is not there");
        List<String> there = new ArrayList<>();
        try (DirectoryStream<Path> files = Files.newDirectoryStream(Path.of("src/test/java"), "*Test.java")) {
            for (Path file : files) there.add(file.getFileName().toString().replace(".java", ""));
        }
        for (String test : there) named(readme, test);
        Matcher told = Pattern.compile("`(\\w+Test)`").matcher(readme);
        while (told.find()) DUE.is(told.group(1) + " is there", there.contains(told.group(1)) ? 1 : 0, 1);
    }

    private static void named(String readme, String name) {
        DUE.is(name, readme.contains("`" + name + "`") ? 1 : 0, 1);
    }
}
