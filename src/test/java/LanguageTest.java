import java.io.IOException;
import java.nio.file.Files;
import java.nio.file.Path;
import java.util.Set;

/**
 * The rules of LANGUAGE.md that can be read off the file hold for the class; and for each of them a
 * small class that breaks it is found out. (What cannot be read off: rule 7, that no call throws by
 * itself, is left to the tests that call; rule 12's counting to MemoryTest.)
 */
public final class LanguageTest {
    private static final String NAME = "AdventureParser";

    public static void main(String[] args) throws IOException {
        String source = Files.readString(Path.of("src/main/java/" + NAME + ".java"));
        Set<String> broken = Language.broken(NAME, source);
        Check.due("rules broken by the class: " + broken, broken.size(), 0);
        inside("int f(int a) { return a; }", "");
        faces();
        libraryAndTypes();
        exceptions();
        depth();
        Check.finish("LanguageTest");
    }

    private static void whole(String source, String due) throws IOException {
        Set<String> broken = Language.broken(NAME, source);
        boolean found = due.isEmpty() ? broken.isEmpty()
                : broken.stream().anyMatch(rule -> rule.startsWith(due));
        Check.due(source + " breaks " + broken + ", due is " + due, found, true);
    }

    private static void inside(String members, String due) throws IOException {
        whole("public final class " + NAME + " { " + members + " }", due);
    }

    private static void faces() throws IOException {
        whole("package p; public final class AdventureParser { }", "rule 1");
        whole("public class AdventureParser { }", "rule 1");
        whole("public final class AdventureParser { } final class Other { }", "rule 1");
        inside("int seen;", "rule 1");
        inside("private class Inner { }", "rule 1");
        inside("public static class Inner { }", "rule 1");
        inside("public int it() { return 1; } private int it(int a) { return a; }", "rule 1");
        inside("Runnable f() { return () -> { }; }", "rule 2");
        inside("Object f() { return new Object() { }; }", "rule 2");
        inside("void f() { class Local { } }", "rule 2");
        inside("private static int changing;", "rule 5");
        inside("private static final int[][] ROWS = {{1}};", "rule 5");
        inside("private static final int A; static { A = 1; }", "rule 5");
        inside("private static final int[] ROW = {1};", "");
    }

    private static void libraryAndTypes() throws IOException {
        inside("private java.util.Random chance;", "rule 3");
        inside("private int[][][] cube;", "rule 3");
        inside("private int[][] square;", "");
        inside("private AdventureParser[][] square;", "rule 3");
        inside("long f() { return System.nanoTime(); }", "rule 4");
        inside("int f(int a) { return Math.addExact(a, 1); }", "rule 4");
        inside("int f(int a) { return Math.max(a, Integer.bitCount(a)); }", "");
        inside("int f(String a) { return a.trim().length(); }", "rule 4");
        inside("int f(int[] a) { return a.clone().length; }", "");
        whole("import java.util.HashMap; public final class AdventureParser { }", "rule 4");
        inside("String f(int a) { return \"a\" + a; }", "rule 10");
        inside("String f(String a) { a += \"b\"; return a; }", "rule 10");
        inside("boolean f(String a) { return a == \"b\"; }", "rule 6");
        inside("boolean f(Integer a, Integer b) { return a != b; }", "rule 6");
        inside("boolean f(String a) { return a == null; }", "");
        inside("Object f() { return new StringBuilder(); }", "rule 12");
    }

    private static void exceptions() throws IOException {
        inside("void f() { throw new IllegalStateException(); }", "");
        inside("void f() { throw new NullPointerException(); }", "rule 6");
        inside("void f(RuntimeException e) { throw e; }", "rule 6");
        inside("public AdventureParser() { throw new IllegalStateException(); }", "rule 6");
        inside("void g() { } void f() { try { g(); } catch (NullPointerException e) { } }", "rule 6");
        inside("void g() { } void f() { try { g(); } catch (RuntimeException e) { } }", "rule 6");
        inside("void g() { } void f() { try { g(); } catch (IndexOutOfBoundsException e) { } }",
                "rule 6");
        inside("void g() { } void f() { try { g(); } catch (IllegalStateException e) { } }", "");
        inside("void f() { try { throw new IllegalStateException(); }"
                + " catch (IllegalStateException e) { } }", "rule 6");
        inside("void g() { } void f() { try { g(); } finally { g(); } }", "rule 6");
        inside("void f() { synchronized (this) { } }", "rule 6");
        inside("void f(int a) { assert a > 0; }", "rule 6");
        inside("public int hashCode() { return 1; }", "rule 6");
    }

    private static void depth() throws IOException {
        inside("int f(int a) { return a > 0 ? f(a - 1) : 0; }", "rule 8");
        inside("int f(int a) { return g(a); } int g(int a) { return f(a); }", "rule 8");
        inside("void f() { for (;;) { } }", "rule 9");
        inside("void f() { while (true) { } }", "rule 9");
        inside("void f(int a) { do { a++; } while (a < 9); }", "");
        inside("void f(int a, int b, int c, int d, int e, int g, int h, int i) { }", "rule 11");
        inside("void f() {" + "\n".repeat(60) + "}", "rule 11");
        inside("private int " + "a, b, c, d, e, f, g, h, i, j, k, l, m, n, o, p, q, r, s, t, u;",
                "rule 11");
        StringBuilder chain = new StringBuilder("int f8() { return 1; }");
        for (int k = 7; k >= 1; k--) {
            chain.append(" int f").append(k).append("() { return f").append(k + 1).append("(); }");
        }
        inside(chain.toString(), "");
        inside(chain + " int f0() { return f1(); }", "rule 11");
        StringBuilder classes = new StringBuilder();
        for (int k = 1; k <= 12; k++) {
            classes.append("private static final class C").append(k).append(" { } ");
        }
        inside(classes.toString(), "rule 11");
    }

    private LanguageTest() {
    }
}
