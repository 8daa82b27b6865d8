import java.io.IOException;
import java.nio.file.Files;
import java.nio.file.Path;
import java.util.List;

/** LANGUAGE.md: the class keeps to each rule that can be seen in its source; samples that break one are told. */
public final class LanguageTest {
    private static final Check CHECK = new Check();

    public static void main(String[] args) throws IOException {
        theClassItself();
        samplesThatKeepToTheRules();
        face();
        classesInside();
        types();
        library();
        staticState();
        exceptions();
        whatTheMachineThrows();
        recursion();
        loops();
        texts();
        sizes();
        objects();
        CHECK.end();
    }

    private static void theClassItself() throws IOException {
        String source = Files.readString(Path.of("src/main/java/Raywalk.java"));
        CHECK.due("Raywalk.java", Language.findings("Raywalk", source), List.of());
        CHECK.due("signs beyond 127", source.chars().anyMatch(sign -> sign > 127), false);
    }

    private static String sample(String members) {
        return "public final class Sample { public Sample() { } " + members + " }";
    }

    private static void kept(String members) throws IOException {
        CHECK.due(members, Language.findings("Sample", sample(members)), List.of());
    }

    private static void broken(int rule, String members) throws IOException {
        brokenWhole(rule, sample(members));
    }

    private static void brokenWhole(int rule, String source) throws IOException {
        List<String> findings = Language.findings("Sample", source);
        boolean isTold = findings.stream().anyMatch(finding -> finding.startsWith("rule " + rule + ",")
                || finding.startsWith("rule " + rule + ":"));
        CHECK.due("rule " + rule + " told of " + source + " " + findings, isTold, true);
    }

    private static void samplesThatKeepToTheRules() throws IOException {
        kept("");
        kept("private static final int[] ROW = {1, 2}; private int first() { return ROW[0]; }");
        kept("private int half(int a) { return a / 2; } private int ratio(int a, int b) { if (b == 0) { return 0; } return a / b; }");
        kept("private int sum(int[] row) { int sum = 0; for (int at = 0; at < row.length; at++) { sum += row[at]; } return sum; }");
        kept("private void check(int a) { if (a < 0) { throw new IllegalArgumentException(\"below 0\"); } }");
        kept("private String text() { StringBuilder text = new StringBuilder(); text.append(5); return text.toString(); }");
        kept("private static final class Part { int value; int twice() { return value * 2; } }");
    }

    private static void face() throws IOException {
        broken(1, "int seen;");
        broken(1, "protected int seen() { return 1; }");
        broken(1, "public int told() { return 1; } private int told(int a) { return a; }");
        brokenWhole(1, "public class Sample { }");
    }

    private static void classesInside() throws IOException {
        broken(1, "private final class Part { }");
        broken(1, "public static final class Part { }");
        broken(2, "interface Giver { int give(); } private Giver giver() { return () -> 1; }");
        broken(2, "interface Giver { int give(); } private int one() { return 1; } private Giver giver() { return this::one; }");
        broken(2, "private int one() { class Part { } return 1; }");
    }

    private static void types() throws IOException {
        broken(3, "private double half;");
        broken(3, "private final int[][][] rows = null;");
        broken(3, "private Object thing;");
        broken(3, "private String[][] rows;");
    }

    private static void library() throws IOException {
        broken(4, "private long now() { return System.nanoTime(); }");
        broken(4, "private int sum(int a, int b) { return Math.addExact(a, b); }");
        broken(4, "private String text(int a) { return String.valueOf(a); }");
        broken(4, "private int read(String text) { return Integer.parseInt(text); }");
        broken(4, "private static final String TEXT = \"\u00e9\";");
        brokenWhole(4, "import java.util.Random; public final class Sample { }");
    }

    private static void staticState() throws IOException {
        broken(5, "private static int count;");
        broken(5, "private static final int[] ROW = new int[5];");
        broken(5, "private static final int[] ROW = {1}; private void change() { ROW[0] = 2; }");
        broken(5, "private static final int[] ROW = {1}; private void change() { ROW[0]++; }");
        broken(5, "static { int a = 1; }");
    }

    private static void exceptions() throws IOException {
        broken(6, "private void fail() { throw new Error(\"no\"); }");
        broken(6, "private void fail(int a) { throw new IllegalStateException(\"no \" + a); }");
        broken(6, "private int fail(int[] a) { try { return a[0]; } catch (RuntimeException thrown) { return 0; } }");
        broken(6, "private boolean is(String a, String b) { return a == b; }");
        broken(6, "private static final class Part { public int hashCode() { return 1; } }");
        brokenWhole(6, "public final class Sample { public Sample() { throw new IllegalStateException(); } }");
    }

    private static void whatTheMachineThrows() throws IOException {
        broken(7, "private int ratio(int a, int b) { return a / b; }");
        broken(7, "private int rest(int a, int b) { return a % b; }");
        broken(7, "private int ratio(int a) { return a / 0; }");
        broken(7, "private int[] row(int count) { return new int[count]; }");
    }

    private static void recursion() throws IOException {
        broken(8, "private int down(int a) { return a > 0 ? down(a - 1) : 0; }");
        broken(8, "private int one(int a) { return other(a); } private int other(int a) { return a > 0 ? one(a - 1) : 0; }");
    }

    private static void loops() throws IOException {
        broken(9, "private void spin() { while (true) { } }");
        broken(9, "private void spin() { for (;;) { } }");
        broken(9, "private void spin(int a) { int b = 0; while (a < 5) { b++; } }");
        broken(9, "private boolean is() { return true; } private void spin() { int b = 0; while (is()) { b++; } }");
    }

    private static void texts() throws IOException {
        broken(10, "private String text(int a) { return \"a\" + a; }");
        broken(10, "private String text(String a) { String b = a; b += a; return b; }");
        broken(10, "private int find(String a) { switch (a) { case \"b\": return 1; default: return 2; } }");
    }

    private static void sizes() throws IOException {
        broken(11, "private int sum(int a, int b, int c, int d, int e, int f, int g, int h) { return 1; }");
        broken(11, "private int one() {" + "\n".repeat(60) + "return 1; }");
        StringBuilder deep = new StringBuilder("private int m0() { return 1; }");
        StringBuilder fields = new StringBuilder();
        StringBuilder classes = new StringBuilder();
        for (int at = 1; at <= 8; at++) {
            deep.append(" private int m").append(at).append("() { return m").append(at - 1).append("(); }");
        }
        for (int at = 0; at <= 20; at++) {
            fields.append(" private int f").append(at).append(';');
            classes.append(" private static final class C").append(at).append(" { }");
        }
        broken(11, deep.toString());
        broken(11, fields.toString());
        broken(11, classes.toString());
    }

    private static void objects() throws IOException {
        broken(12, "private static final class Part { } private Part part() { return new Part(); }");
        broken(12, "private int one() { int[] row = {1}; return row[0]; }");
        broken(12, "private void texts() { for (int a = 0; a < 5; a++) { new StringBuilder(); } }");
    }
}
