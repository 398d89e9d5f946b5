import java.io.IOException;
import java.nio.file.Files;
import java.nio.file.Path;
import java.util.List;

/** What can be looked for in the source of the rules 2, 4, 6, 9, 10, 11 and 12 of LANGUAGE.md. */
final class LanguageTest {
    private static final Check CHECK = new Check("LanguageTest");
    private static final Path SOURCE = Path.of("src/main/java/PeepBox.java");
    private static final String[] OUTSIDE = {
        "->", "::", "try", "catch", "finally", "synchronized", "assert", "instanceof", "package", "protected",
        "while (true", "for (;", "Exact(", "equals(", "hashCode", "toString", "System.out", "Random", "nanoTime",
        "currentTimeMillis", "Object", "List", "double", "printStackTrace", "static {", "volatile", "transient"};

    public static void main(String[] args) throws IOException {
        List<String> lines = Files.readAllLines(SOURCE);
        int methodBegan = -1;
        boolean constructs = false;
        for (int i = 0; i < lines.size(); i++) {
            String line = lines.get(i);
            String code = line.trim().startsWith("/**") || line.trim().startsWith("*") ? "" : line;
            for (String word : OUTSIDE) {
                if (code.contains(word)) {
                    CHECK.tell("line " + (i + 1) + " has " + word);
                }
            }
            if (code.startsWith("import") && !code.equals("import java.util.Arrays;")) {
                CHECK.tell("line " + (i + 1) + ": " + code);
            }
            if (code.contains("throw ") && !code.matches(" *throw new [A-Za-z]+\\(\"[^\"]+\"\\);| *default: throw new [A-Za-z]+\\(\"[^\"]+\"\\);")) {
                CHECK.tell("line " + (i + 1) + ": " + code);
            }
            constructs = constructs || code.contains("public PeepBox() {");
            boolean makes = code.contains("new ") && !code.contains("throw new ");
            if (makes && !code.contains("final ") && !constructs) {
                CHECK.tell("line " + (i + 1) + " makes an object outside a constructor");
            }
            if (code.matches(" {4}| {8}") || code.matches("( {4}| {8})\\S.*\\(.*") && !code.contains(";")) {
                methodBegan = i;
            }
            if (code.equals("    }") || code.equals("        }")) {
                constructs = false;
                if (methodBegan >= 0 && i - methodBegan >= 60) {
                    CHECK.tell("line " + (i + 1) + " ends a long method");
                }
            }
            for (int c = 0; c < line.length(); c++) {
                if (line.charAt(c) > 126) {
                    CHECK.tell("line " + (i + 1) + " has a sign beyond 126");
                }
            }
        }
        CHECK.finish();
    }
}
