import java.io.ByteArrayOutputStream;
import java.io.IOException;
import java.io.InputStream;
import java.io.OutputStream;
import java.io.StringWriter;
import java.lang.reflect.Method;
import java.net.URI;
import java.nio.file.Files;
import java.nio.file.Path;
import java.util.HashMap;
import java.util.List;
import java.util.Map;
import java.util.stream.IntStream;
import javax.tools.FileObject;
import javax.tools.ForwardingJavaFileManager;
import javax.tools.JavaCompiler;
import javax.tools.JavaFileManager;
import javax.tools.JavaFileObject;
import javax.tools.SimpleJavaFileObject;
import javax.tools.ToolProvider;

/** Each case of BoundariesTest fails with each change of the class that breaks its words. */
public final class BrokenTest {
    private static final JavaCompiler COMPILER = ToolProvider.getSystemJavaCompiler();

    public static void main(String[] args) throws IOException {
        String text = Files.readString(Path.of("src/main/java/FreightPaths.java"));
        String code = text.replaceAll("(?s)/\\*.*?\\*/", " ").replaceAll("//[^\n]*", " ").replaceAll("\\s+", " ");
        List<Case> cases = Case.all();
        String[] answers = new String[cases.size()];
        IntStream.range(0, cases.size()).parallel().forEach(i -> answers[i] = whatStillHolds(code, cases.get(i), i));
        for (int i = 0; i < answers.length; i++) {
            String named = "with the class broken, '" + cases.get(i).name() + "'" + answers[i];
            Due.add(cases.get(i).breaks.length / 2, answers[i].isEmpty() ? List.of() : List.of(named));
        }
        Due.finish("BrokenTest");
    }

    private static String whatStillHolds(String code, Case one, int number) {
        if (one.breaks.length < 2) {
            return " has no break";
        }
        StringBuilder holds = new StringBuilder();
        for (int i = 0; i + 1 < one.breaks.length; i += 2) {
            String from = one.breaks[i];
            int at = code.indexOf(from);
            if (at < 0 || code.indexOf(from, at + 1) >= 0) {
                holds.append("\n    is broken by a text that doesn't stand once in the class: ").append(from);
                continue;
            }
            String broken = code.substring(0, at) + one.breaks[i + 1] + code.substring(at + from.length());
            String answer = tried(broken, number);
            if (!answer.isEmpty()) {
                holds.append("\n    ").append(answer).append(": ").append(from).append(" -> ").append(one.breaks[i + 1]);
            }
        }
        return holds.toString();
    }

    private static String tried(String broken, int number) {
        Map<String, byte[]> classes = new HashMap<>();
        String said = compile(broken, classes);
        if (!said.isEmpty()) {
            return "isn't Java (" + said + ")";
        }
        try {
            Method wrongIn = new Loader(classes).loadClass("Case").getDeclaredMethod("wrongIn", int.class);
            wrongIn.setAccessible(true);
            return (int) wrongIn.invoke(null, number) > 0 ? "" : "still holds";
        } catch (ReflectiveOperationException e) {
            return "can't be tried (" + e + ")";
        }
    }

    private static String compile(String code, Map<String, byte[]> classes) {
        SimpleJavaFileObject source = new SimpleJavaFileObject(URI.create("string:///FreightPaths.java"), JavaFileObject.Kind.SOURCE) {
            @Override
            public CharSequence getCharContent(boolean ignored) {
                return code;
            }
        };
        StringWriter said = new StringWriter();
        try (JavaFileManager kept = new Kept(COMPILER.getStandardFileManager(null, null, null), classes)) {
            boolean isJava = COMPILER.getTask(said, kept, null, List.of("-proc:none"), null, List.of(source)).call();
            return isJava ? "" : said.toString();
        } catch (IOException e) {
            return e.toString();
        }
    }

    /** Keeps what is compiled in memory. */
    private static final class Kept extends ForwardingJavaFileManager<JavaFileManager> {
        private final Map<String, byte[]> classes;

        Kept(JavaFileManager manager, Map<String, byte[]> classes) {
            super(manager);
            this.classes = classes;
        }

        @Override
        public JavaFileObject getJavaFileForOutput(Location where, String name, JavaFileObject.Kind kind, FileObject sibling) {
            return new SimpleJavaFileObject(URI.create("mem:///" + name.replace('$', '-')), kind) {
                @Override
                public OutputStream openOutputStream() {
                    return new ByteArrayOutputStream() {
                        @Override
                        public void close() {
                            classes.put(name, toByteArray());
                        }
                    };
                }
            };
        }
    }

    /** The cases anew, with the broken class in place of the one that stands. */
    private static final class Loader extends ClassLoader {
        private final Map<String, byte[]> broken;

        Loader(Map<String, byte[]> broken) {
            super(ClassLoader.getPlatformClassLoader());
            this.broken = broken;
        }

        @Override
        protected Class<?> findClass(String name) throws ClassNotFoundException {
            byte[] code = broken.get(name);
            if (code == null) {
                try (InputStream in = ClassLoader.getSystemResourceAsStream(name.replace('.', '/') + ".class")) {
                    code = in == null ? null : in.readAllBytes();
                } catch (IOException e) {
                    throw new ClassNotFoundException(name, e);
                }
            }
            if (code == null) {
                throw new ClassNotFoundException(name);
            }
            return defineClass(name, code, 0, code.length);
        }
    }
}
