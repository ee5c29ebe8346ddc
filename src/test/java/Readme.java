import java.io.ByteArrayOutputStream;
import java.io.IOException;
import java.io.PrintStream;
import java.lang.reflect.Method;
import java.nio.file.Files;
import java.nio.file.Path;
import java.util.ArrayList;
import java.util.List;
import java.util.Set;
import java.util.TreeSet;
import java.util.regex.Matcher;
import java.util.regex.Pattern;

/**
 * Makes a program of README.md that makes the calls which it shows and looks at the answers which it
 * shows for them. A java block there is a whole program, with what it prints in the next text block, or
 * a run of calls of one new object, one to a line, with its answer behind "->".
 */
public final class Readme {
    private static final String NEW = "LsmStore store = new LsmStore();";
    private static final Pattern CALL = Pattern.compile("(store\\.(\\w+)\\(.*?\\));(?: +// (.*))?");
    private static final Pattern ANSWER = Pattern.compile("-> (?:throws (\\w+)|(-?\\w+))(?:: .*)?");
    private static final Pattern PROGRAM = Pattern.compile("(?s).*\\bclass (\\w+).*static void main\\(.*");

    private final StringBuilder code = new StringBuilder();
    private final Set<String> shown = new TreeSet<>();
    private final Path out;
    private int wrong;

    private Readme(Path out) {
        this.out = out;
    }

    public static void main(String[] args) throws IOException {
        Path out = Path.of(args[1]);
        Files.createDirectories(out);
        Readme readme = new Readme(out);
        readme.read(Files.readAllLines(Path.of(args[0])));
        readme.nothingIsLeftOut();
        readme.write();
        if (readme.wrong > 0) {
            System.exit(1);
        }
    }

    private void report(String text) {
        wrong++;
        System.out.println("README.md, " + text);
    }

    private void read(List<String> lines) throws IOException {
        String program = "";
        for (int i = 0; i < lines.size(); i++) {
            if (!lines.get(i).startsWith("```")) {
                continue;
            }
            String kind = lines.get(i).substring(3);
            int start = i + 1;
            i = start;
            while (i < lines.size() && !lines.get(i).equals("```")) {
                i++;
            }
            List<String> block = lines.subList(start, Math.min(i, lines.size()));
            String text = String.join("\n", block) + "\n";
            Matcher matcher = PROGRAM.matcher(text);
            if (kind.equals("java") && matcher.matches()) {
                program = matcher.group(1);
                Files.writeString(out.resolve(program + ".java"), text);
            } else if (kind.equals("java")) {
                addRun(block, start + 1);
            } else if (kind.equals("text") && !program.isEmpty()) {
                addProgram(program, block);
                program = "";
            }
        }
        if (!program.isEmpty()) {
            report("nothing shows what " + program + " prints");
        }
    }

    private void addProgram(String name, List<String> prints) {
        String due = String.join("\\n", prints).replace("\"", "\\\"") + "\\n";
        code.append("        Due.same(\"what ").append(name).append(" prints\", Readme.printed(() -> ")
            .append(name).append(".main(new String[0])), \"").append(due).append("\");\n");
    }

    /** What a program prints. */
    static String printed(Due.Act program) {
        PrintStream before = System.out;
        ByteArrayOutputStream bytes = new ByteArrayOutputStream();
        System.setOut(new PrintStream(bytes));
        try {
            program.run();
        } finally {
            System.setOut(before);
        }
        return bytes.toString().replace("\r\n", "\n");
    }

    private void addRun(List<String> block, int first) {
        code.append("        {\n");
        if (block.isEmpty() || !block.get(0).equals(NEW)) {
            report("line " + first + " does not begin with a new object");
        }
        for (int i = 0; i < block.size(); i++) {
            String line = block.get(i);
            if (line.equals(NEW) && i == 0) {
                code.append("            ").append(NEW).append("\n");
            } else if (!line.isBlank() && !line.startsWith("//")) {
                addCall(line, first + i);
            }
        }
        code.append("        }\n");
    }

    private void addCall(String line, int number) {
        Matcher call = CALL.matcher(line);
        if (!call.matches()) {
            report("line " + number + " is no call: " + line);
            return;
        }
        shown.add(call.group(2));
        String what = "\"line " + number + ", " + call.group(1) + "\"";
        Matcher answer = ANSWER.matcher(call.group(3) == null ? "" : call.group(3));
        code.append("            ");
        if (!answer.matches()) {
            if (!isSilent(call.group(2))) {
                report("line " + number + " tells no answer: " + line);
            }
            code.append(call.group(1)).append(";\n");
        } else if (answer.group(1) != null) {
            code.append("Due.thrown(").append(what).append(", ").append(answer.group(1))
                .append(".class, () -> ").append(call.group(1)).append(");\n");
        } else {
            code.append("Due.is(").append(what).append(", ").append(call.group(1)).append(", ")
                .append(answer.group(2)).append(");\n");
        }
    }

    private static boolean isSilent(String name) {
        for (Method method : LsmStore.class.getDeclaredMethods()) {
            if (method.getName().equals(name)) {
                return method.getReturnType() == void.class;
            }
        }
        return false;
    }

    private void nothingIsLeftOut() {
        for (Method method : Face.class.getDeclaredMethods()) {
            if (!shown.contains(method.getName())) {
                report("no run shows " + method.getName());
            }
        }
    }

    private void write() throws IOException {
        List<String> all = new ArrayList<>();
        all.add("import java.util.NoSuchElementException;");
        all.add("public final class ReadmeCalls {");
        all.add("    public static void main(String[] args) {");
        all.add(code.toString() + "        Due.finish(\"README.md\");");
        all.add("    }");
        all.add("}");
        Files.write(out.resolve("ReadmeCalls.java"), all);
    }
}
