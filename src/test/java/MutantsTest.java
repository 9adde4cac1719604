import java.io.ByteArrayOutputStream;
import java.io.IOException;
import java.io.InputStream;
import java.io.OutputStream;
import java.io.Writer;
import java.lang.reflect.Constructor;
import java.lang.reflect.InvocationTargetException;
import java.lang.reflect.Method;
import java.net.URI;
import java.nio.file.Files;
import java.nio.file.Path;
import java.util.ArrayList;
import java.util.HashMap;
import java.util.List;
import java.util.Map;
import java.util.Set;
import java.util.TreeSet;
import java.util.concurrent.Callable;
import java.util.concurrent.ExecutionException;
import java.util.concurrent.ExecutorService;
import java.util.concurrent.Executors;
import java.util.concurrent.Future;
import java.util.concurrent.TimeUnit;
import java.util.concurrent.TimeoutException;
import java.util.regex.Pattern;
import javax.tools.FileObject;
import javax.tools.ForwardingJavaFileManager;
import javax.tools.JavaCompiler;
import javax.tools.JavaFileManager;
import javax.tools.JavaFileObject;
import javax.tools.SimpleJavaFileObject;
import javax.tools.ToolProvider;

/**
 * Breaks ShutBench in one place after the other, as src/test/mutants.txt tells, and asks the tests of the
 * edges each time: they must see it. So each sentence's test is known to fail once the sentence is broken.
 */
public final class MutantsTest {
    private static final Path SOURCE = Path.of("src/main/java/ShutBench.java");
    private static final Path MUTANTS = Path.of("src/test/mutants.txt");
    private static final int PATIENCE_SECONDS = 120;

    /** A place of the source, what stands there, what stands there instead, and the sentence that breaks. */
    private static final class Mutant {
        final int line;
        final String sentence;
        final String from;
        final String to;

        Mutant(int line, String sentence, String from, String to) {
            this.line = line;
            this.sentence = sentence;
            this.from = from;
            this.to = to;
        }
    }

    public static void main(String[] args) throws Exception {
        boolean tells = args.length > 0;
        String source = Files.readString(SOURCE);
        Checks checks = new Checks();
        List<Mutant> mutants = read(checks);
        Checks whole = new Checks();
        Edges.askAll(whole);
        checks.due("sentences that the whole breaks", whole.broken().size(), 0);
        Set<String> unbroken = new TreeSet<>(whole.sentences());
        ExecutorService threads = Executors.newFixedThreadPool(Runtime.getRuntime().availableProcessors(), task -> {
            Thread thread = new Thread(task);
            thread.setDaemon(true);
            return thread;
        });
        Map<Mutant, Future<Set<String>>> broken = new HashMap<>();
        for (Mutant mutant : mutants) {
            int count = source.split(Pattern.quote(mutant.from), -1).length - 1;
            checks.due("line " + mutant.line + " stands in the source so many times", count, 1);
            Callable<Set<String>> task = () -> brokenBy(source.replace(mutant.from, mutant.to));
            broken.put(mutant, threads.submit(task));
        }
        for (Mutant mutant : mutants) {
            Set<String> sentences = sentencesOf(broken.get(mutant));
            boolean own = sentences.stream().anyMatch(each -> each.startsWith(mutant.sentence));
            checks.due("line " + mutant.line + " breaks: " + mutant.sentence + " (it breaks " + sentences + ")", own ? 1 : 0, 1);
            unbroken.removeAll(sentences);
            if (tells) {
                System.out.println(mutant.line + " " + mutant.sentence + "\n    " + mutant.to + "\n    " + sentences);
            }
        }
        for (String sentence : unbroken) {
            checks.due("a mutant breaks: " + sentence, 0, 1);
        }
        checks.close("MutantsTest");
        System.exit(0);
    }

    /** A mutant is told by three lines: = and the sentence's first words, - and what stands there, + and what instead. */
    private static List<Mutant> read(Checks checks) throws Exception {
        List<Mutant> mutants = new ArrayList<>();
        List<String> lines = Files.readAllLines(MUTANTS);
        String sentence = "";
        String from = "";
        for (int i = 0; i < lines.size(); i++) {
            String line = lines.get(i);
            if (line.startsWith("= ")) {
                sentence = line.substring(2);
            } else if (line.startsWith("- ")) {
                from = line.substring(2).replace("\\n", "\n");
            } else if (line.startsWith("+ ")) {
                mutants.add(new Mutant(i + 1, sentence, from, line.substring(2).replace("\\n", "\n")));
            } else {
                checks.due("line " + (i + 1) + " of the mutants is empty or a #", line.matches("|#.*") ? 1 : 0, 1);
            }
        }
        checks.due("mutants", mutants.isEmpty() ? 0 : 1, 1);
        return mutants;
    }

    private static Set<String> sentencesOf(Future<Set<String>> broken) throws InterruptedException {
        try {
            return broken.get(PATIENCE_SECONDS, TimeUnit.SECONDS);
        } catch (TimeoutException e) {
            return Set.of("it did not end");
        } catch (ExecutionException e) {
            return Set.of("it did not run: " + e.getCause());
        }
    }

    private static Set<String> brokenBy(String source) throws Exception {
        Loader loader = new Loader(compile(source));
        Class<?> checksClass = loader.loadClass("Checks");
        Constructor<?> constructor = checksClass.getDeclaredConstructor(int.class);
        constructor.setAccessible(true);
        Object checks = constructor.newInstance(0);
        Method askAll = loader.loadClass("Edges").getDeclaredMethod("askAll", checksClass);
        askAll.setAccessible(true);
        Method broken = checksClass.getDeclaredMethod("broken");
        broken.setAccessible(true);
        Set<String> sentences = new TreeSet<>();
        try {
            askAll.invoke(null, checks);
        } catch (InvocationTargetException e) {
            sentences.add("it threw " + e.getCause());
        }
        for (Object sentence : (Set<?>) broken.invoke(checks)) {
            sentences.add(String.valueOf(sentence));
        }
        return sentences;
    }

    private static Map<String, byte[]> compile(String source) {
        Map<String, ByteArrayOutputStream> made = new HashMap<>();
        JavaCompiler compiler = ToolProvider.getSystemJavaCompiler();
        JavaFileManager files = new ForwardingJavaFileManager<JavaFileManager>(
                compiler.getStandardFileManager(null, null, null)) {
            @Override
            public JavaFileObject getJavaFileForOutput(Location where, String name, JavaFileObject.Kind kind, FileObject by) {
                return new SimpleJavaFileObject(URI.create("made:///" + name), kind) {
                    @Override
                    public OutputStream openOutputStream() {
                        return made.computeIfAbsent(name, key -> new ByteArrayOutputStream());
                    }
                };
            }
        };
        JavaFileObject text = new SimpleJavaFileObject(URI.create("told:///ShutBench.java"), JavaFileObject.Kind.SOURCE) {
            @Override
            public CharSequence getCharContent(boolean ignoring) {
                return source;
            }
        };
        if (!compiler.getTask(Writer.nullWriter(), files, null, null, null, List.of(text)).call()) {
            throw new IllegalStateException("it does not compile");
        }
        Map<String, byte[]> classes = new HashMap<>();
        made.forEach((name, bytes) -> classes.put(name, bytes.toByteArray()));
        return classes;
    }

    /** The broken ShutBench and the tests, each made anew, so that these call it and no other one. */
    private static final class Loader extends ClassLoader {
        private final Map<String, byte[]> classes;

        Loader(Map<String, byte[]> classes) {
            super(MutantsTest.class.getClassLoader());
            this.classes = classes;
        }

        @Override
        protected Class<?> loadClass(String name, boolean resolving) throws ClassNotFoundException {
            if (name.indexOf('.') >= 0) {
                return super.loadClass(name, resolving);
            }
            synchronized (getClassLoadingLock(name)) {
                Class<?> found = findLoadedClass(name);
                return found != null ? found : define(name);
            }
        }

        private Class<?> define(String name) throws ClassNotFoundException {
            byte[] bytes = classes.get(name);
            if (bytes == null) {
                try (InputStream stream = getParent().getResourceAsStream(name + ".class")) {
                    bytes = stream == null ? new byte[0] : stream.readAllBytes();
                } catch (IOException e) {
                    throw new ClassNotFoundException(name, e);
                }
            }
            return defineClass(name, bytes, 0, bytes.length);
        }
    }
}
