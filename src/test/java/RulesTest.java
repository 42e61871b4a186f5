import com.sun.management.ThreadMXBean;
import java.io.DataInputStream;
import java.io.IOException;
import java.io.InputStream;
import java.lang.management.ManagementFactory;
import java.nio.file.Files;
import java.nio.file.Path;
import java.util.ArrayList;
import java.util.List;
import java.util.Set;
import java.util.TreeSet;

/** Rules of LANGUAGE.md that can be looked at: what is called, what is made, how long methods are. */
public final class RulesTest {
    private static final Set<String> LIBRARY = Set.of("java/lang/Object.<init>", "java/lang/Math.min", "java/lang/Math.max",
            "java/lang/Math.abs", "java/lang/Integer.bitCount", "java/lang/System.arraycopy", "java/lang/String.length",
            "java/lang/String.charAt", "java/util/NoSuchElementException.<init>");

    /** Of the library's classes only functions are listed: Integer.MAX_VALUE is none, and leaves no trace in a class file. */
    private static final String LISTED = "\\b(Math\\.(min|max|abs)|Integer\\.bitCount|System\\.arraycopy)\\(";

    public static void main(String[] args) throws IOException {
        library();
        source();
        madeByCalls();
        Check.finish("RulesTest");
    }

    private static void library() throws IOException {
        List<Class<?>> classes = new ArrayList<>(List.of(SecondHelpings.class));
        classes.addAll(List.of(SecondHelpings.class.getDeclaredClasses()));
        Check.due("no class but those told", SecondHelpings.class.getResource("SecondHelpings$1.class") == null, true);
        for (Class<?> c : classes) {
            try (InputStream in = c.getResourceAsStream(c.getName() + ".class")) {
                for (String call : calls(new DataInputStream(in))) {
                    boolean own = call.startsWith("SecondHelpings");
                    Check.due(c.getName() + " calls " + call, own || LIBRARY.contains(call), true);
                }
            }
        }
    }

    /** The methods that a class file's constant pool names. */
    private static Set<String> calls(DataInputStream in) throws IOException {
        in.readInt();
        in.readInt();
        int size = in.readUnsignedShort();
        Object[] pool = new Object[size];
        List<int[]> methods = new ArrayList<>();
        for (int i = 1; i < size; i++) {
            int tag = in.readUnsignedByte();
            switch (tag) {
                case 1 -> pool[i] = in.readUTF();
                case 3, 4 -> in.readInt();
                case 5, 6 -> {
                    in.readLong();
                    i++;
                }
                case 7, 8, 16, 19, 20 -> pool[i] = new int[] {in.readUnsignedShort()};
                case 9, 12 -> pool[i] = new int[] {in.readUnsignedShort(), in.readUnsignedShort()};
                case 10, 11 -> methods.add(new int[] {in.readUnsignedShort(), in.readUnsignedShort()});
                default -> throw new IOException("a constant of kind " + tag + " (invokedynamic?)");
            }
        }
        Set<String> calls = new TreeSet<>();
        for (int[] method : methods) {
            String owner = (String) pool[((int[]) pool[method[0]])[0]];
            calls.add(owner + "." + pool[((int[]) pool[method[1]])[0]]);
        }
        return calls;
    }

    private static void source() throws IOException {
        List<String> lines = Files.readAllLines(Path.of("src/main/java/SecondHelpings.java"));
        int start = 0;
        int imports = 0;
        for (int i = 0; i < lines.size(); i++) {
            String line = lines.get(i);
            String code = line.replaceAll("//.*|^\\s*/?\\*.*", "").replaceAll("\"[^\"]*\"", "\"\"");
            Check.due("line " + (i + 1) + ": " + line, code.matches(
                    ".*(->|::|\\bcatch\\b|\\bfinally\\b|\\bsynchronized\\b|\\bassert\\b|\\bpackage\\b|\"\\s*\\+|\\+\\s*\").*"), false);
            Check.due("library of line " + (i + 1) + ": " + line, code.replaceAll(LISTED, "").matches(
                    ".*\\b(Integer|Long|Short|Byte|Character|Boolean|Math|System|Arrays|Objects|String)\\..*"), false);
            Check.due("signs of line " + (i + 1), line.chars().allMatch(c -> c >= 32 && c < 127), true);
            imports += code.startsWith("import ") ? 1 : 0;
            if (line.matches(" {4}(    )?[a-zA-Z].*\\) (throws \\w+ )?\\{")) {
                start = i;
            }
            if (line.matches(" {4}(    )?\\}") && start > 0) {
                Check.due("length of the method at line " + (start + 1), i - start <= 60, true);
                start = 0;
            }
        }
        Check.due("imports", imports, 1);
    }

    /** A call makes no object: what a run makes does not grow by its calls. */
    private static void madeByCalls() {
        ThreadMXBean threads = (ThreadMXBean) ManagementFactory.getThreadMXBean();
        SecondHelpings x = Check.at("person a 5;person b 6 of a;person c 7 of a;person d 8;person e 9 of d;person f 4;person g 3 of f;"
                + "dish h 50 spoils 1;dish i 60;dish j 70;plate a h 40;plate b i 30;plate d j 20;plate f h 9;law least;dogs 3;");
        long answers = runOfCalls(x);
        long before = threads.getThreadAllocatedBytes(Thread.currentThread().getId());
        answers += runOfCalls(x);
        long made = threads.getThreadAllocatedBytes(Thread.currentThread().getId()) - before;
        Check.due("answers", answers != 0, true);
        Check.due("bytes that the calls made: " + made, made < 10000, true);
    }

    private static long runOfCalls(SecondHelpings x) {
        long sum = 0;
        for (int i = 0; i < 6; i++) {
            sum += x.order() + x.seats() + x.odds(1, 30, i) + x.drawn(2, i) + x.meals(1) + x.undo() + x.will(1);
            sum += x.serve(1, 1, 1) + x.eat(1, 1, 1) + x.refuse(2) + x.accept(2) + x.rise(3) + x.heir(0) + x.line(0, 3);
            sum += x.share(0, 127, 1) + x.last(0) + x.kin(1, 2) + x.hungriest() + x.byteAt(0) + x.now(5) + x.dish(0, 2);
            sum += x.image(1) ? 1 : 0;
            x.feed(0x6d65616c, 0x20313b61, 0x20726566, 0x75736573, 0x3b20200a);
            sum += x.book(i % 2) + x.told(0);
            x.feed(0x77616e74, 0x733e3520, 0x6f722028, 0x64656164, 0x29202020);
            sum += x.sentence() + x.said(-1) + x.said(0);
            x.feed(0x00090000, 0, 0, 0, 0);
            sum += x.end(2) ? x.eaters() + x.surely() + x.ask() : 0;
            x.feed(0x00010203, 0, 0, 0, 0);
            sum += x.end(4) ? x.left(5) : 0;
            x.feed(0x646f6773, 0x20393b20, 0x6c617720, 0x6c656173, 0x743b2020);
            sum += x.table() + (x.restore(1) ? 1 : 0);
        }
        return sum;
    }
}
