import java.io.IOException;
import java.nio.file.Files;
import java.nio.file.Path;
import java.util.ArrayList;
import java.util.List;

/**
 * What of LANGUAGE.md can be seen in HoopYard.java as javac reads it (of rule 1, and of what rule 11 says of classes:
 * FaceTest). That no index, divisor or reference is used unseen (rule 7) is not looked for here.
 */
public final class LanguageTest {
  private static final Path FILE = Path.of("src/main/java/HoopYard.java");
  private static final int DEEPEST = 8;
  private static final String FINE = "int a(int[] x, Tray t) { int s = 0; for (int v : x) { s += t.b.length; }"
      + " return Math.max(s, 1); } private static final class Tray { final long[] b = new long[3]; int[][] c; }";
  /** What breaks a rule, by the rule's number: a rule whose breach is not seen is not tested. */
  private static final String[][] BREACHES = {
    {"2", "class A { }"}, {"2", "void a() { class A { } }"}, {"2", "void a() { Runnable r = () -> { }; }"},
    {"2", "Object a = new Object() { };"}, {"2", "void a() { java.util.function.IntSupplier r = this::hashCode; }"},
    {"2", "enum A { B { } }"},
    {"3", "Object a;"}, {"3", "int[][][] a;"}, {"3", "String[][] a;"}, {"3", "static class A { } A[][] a;"},
    {"3", "java.util.HashMap<String, String> a;"}, {"3", "Long a() { return null; }"}, {"3", "void a(Thread t) { }"},
    {"4", "int a() { return Integer.MAX_VALUE; }"}, {"4", "double a(double x) { return Math.sqrt(x); }"},
    {"4", "int a(int x) { return Math.addExact(x, x); }"}, {"4", "long a() { return System.nanoTime(); }"},
    {"4", "int a(int[] x) { return java.util.Arrays.hashCode(x); }"}, {"4", "void a() { new Thread(); }"},
    {"4", "int a(String s) { return s.hashCode(); }"},
    {"5", "static int[] a = {1};"}, {"5", "static final int a; static { a = 1; }"},
    {"5", "static final int[] A = {1}; void a() { A[0] = 2; }"}, {"5", "static final int[] A = new int[3];"},
    {"5", "static final int[] A = {1}; void a() { A[0]++; }"}, {"5", "static final double A = 1;"},
    {"5", "static final int[] A = {1}; void a() { A[0] += 2; }"}, {"5", "static int a = 1;"},
    {"6", "void a() { throw new RuntimeException(); }"}, {"6", "void a() { try { a(); } finally { } }"},
    {"6", "synchronized void a() { }"}, {"6", "void a() { synchronized (this) { } }"},
    {"6", "void a(int x) { assert x > 0; }"},
    {"6", "boolean a(String s) { return s == \"\"; }"}, {"6", "boolean a(Integer x, Integer y) { return x != y; }"},
    {"6", "void a(HoopYard x) { x = (HoopYard) x; }"}, {"6", "public String toString() { return null; }"},
    {"9", "void a() { for (;;) { } }"}, {"9", "void a() { while (true) { } }"},
    {"9", "void a() { do { } while (true); }"},
    {"9", "void a(int x) { for (int i = 0; i < x;) { x--; } }"},
    {"10", "String a(String s) { return s + 1; }"}, {"10", "void a(String s) { s += 1; }"},
    {"11", "int a(int b, int c, int d, int e, int f, int g, int h, int i) { return b; }"},
    {"11", "void a(int x) {\n" + "x++;\n".repeat(60) + "}"}
  };

  public static void main(String[] args) throws IOException {
    Due due = new Due("LanguageTest");
    String text = Files.readString(FILE);
    due.holds("rule 4: signs are 1 to 127", text.chars().allMatch(c -> c > 0 && c < 128));
    due.holds("there is no package line", !text.contains("package "));
    CallGraph graph = new CallGraph();
    for (String fault : faults(due, FILE, graph)) {
      due.holds(fault, false);
    }
    calls(due, graph);
    breachesAreSeen(due);
    due.end();
  }

  private static List<String> faults(Due due, Path file, CallGraph graph) throws IOException {
    SourceTree source = new SourceTree(file);
    due.holds(file + " compiles", source.compiles);
    List<String> faults = new ArrayList<>();
    new LanguageScan(source, faults, graph).scan(source.unit, null);
    return faults;
  }

  private static void calls(Due due, CallGraph graph) {
    for (String method : graph.recursive()) {
      boolean isGuarded = graph.isPrivateStatic(method) && method.contains("depth");
      due.holds("rule 8: " + method + " is private, static and carries its depth", isGuarded);
    }
    List<String> deepest = graph.deepest();
    due.holds("rule 11: calls go eight deep at most: " + deepest, deepest.size() <= DEEPEST);
    due.holds("calls are seen at all", deepest.size() > 1);
    due.is("methods that call themselves", graph.recursive().size(), 1);
  }

  /** Calls that come back to where they began, over another method and over a class below; a row of nine. */
  private static void callsAreSeen(Due due, Path file) throws IOException {
    StringBuilder code = new StringBuilder("import java.util.Map; public final class HoopYard {\n");
    code.append("void x() { y(); } void y() { x(); } void a8() { }\n");
    for (int k = 0; k < DEEPEST; k++) {
      code.append("void a").append(k).append("() { a").append(k + 1).append("(); }\n");
    }
    code.append("abstract static class A { abstract void m(); }\n");
    code.append("static final class B extends A { A a; void m() { new B(); a.m(); } }\n}\n");
    Files.writeString(file, code);
    CallGraph graph = new CallGraph();
    List<String> faults = faults(due, file, graph);
    due.holds("rule 4 is seen to be broken by an import", faults.size() == 1 && faults.get(0).startsWith("rule 4,"));
    due.is("methods seen to come back to themselves: " + graph.recursive(), graph.recursive().size(), 4);
    due.is("calls seen to be nine deep: " + graph.deepest(), graph.deepest().size(), DEEPEST + 1);
  }

  private static void breachesAreSeen(Due due) throws IOException {
    Path folder = Files.createTempDirectory(Files.createDirectories(Path.of("build")), "language");
    Path file = folder.resolve("HoopYard.java");
    Files.writeString(file, "public final class HoopYard {\n" + FINE + "\n}\n");
    due.is("faults of what is as it should be", faults(due, file, new CallGraph()).size(), 0);
    callsAreSeen(due, file);
    for (String[] breach : BREACHES) {
      Files.writeString(file, "public final class HoopYard {\n" + breach[1] + "\n}\n");
      List<String> faults = faults(due, file, new CallGraph());
      boolean isSeen = faults.stream().anyMatch(fault -> fault.startsWith("rule " + breach[0] + ","));
      due.holds("rule " + breach[0] + " is seen to be broken by " + breach[1].split("\n")[0], isSeen);
    }
    Files.delete(file);
    Files.delete(folder);
  }
}
