import java.lang.reflect.Array;
import java.lang.reflect.Field;
import java.lang.reflect.Method;
import java.lang.reflect.Modifier;
import java.nio.file.Files;
import java.nio.file.Path;
import java.util.ArrayList;
import java.util.Arrays;
import java.util.IdentityHashMap;
import java.util.List;
import java.util.Set;
import java.util.TreeSet;
import java.util.regex.Matcher;
import java.util.regex.Pattern;

/** What of ../shared/LANGUAGE.md can be seen from outside, by number of its rule. Run from the project's folder. */
public final class LanguageTest {
  private static int passed = 0, failed = 0;

  private static void holds(int rule, String what, boolean so) {
    if (so) passed++;
    else { failed++; System.out.println("rule " + rule + ": " + what); }
  }

  private static final String[] FACE = {
    "int sky(int,int)", "int rule(int,int)", "int rim(int,int)", "int write(int,long)", "int wipe()", "int fault()", "int plan()", "int line(int,int)",
    "int first(int,int,int)", "int at(boolean,int,int,int)", "int marked(int,int,int)", "long sum(boolean,int,int)", "int slip(int,int,int,int)", "int mend()",
    "int spread(int,int,int)", "int kept(int)", "int grows()", "int tell(int,int,boolean,int,long)", "int fails()", "int least()", "int second(int,int)",
    "int put(int,int)", "int judge(int,int)", "int pace(int,int)", "int give(int,int)", "int when(int,int)", "int slowest(int)", "int given(int,int,int)",
    "int known(int,int)", "int coarse(int,int,int)", "int keep()", "int back()", "int count(int)"};

  public static void main(String[] args) throws Exception {
    String text = Files.readString(Path.of("src/main/java/ForecastHall.java"));
    face();
    classes();
    words(bare(text));
    methods(bare(text));
    room();
    System.out.println("language: " + passed + " passed, " + failed + " failed");
    if (failed > 0) System.exit(1);
  }

  private static void face() {
    Class<?> c = ForecastHall.class;
    holds(1, "the class is public and final", Modifier.isPublic(c.getModifiers()) && Modifier.isFinal(c.getModifiers()) && c.getPackageName().isEmpty());
    Set<String> want = new TreeSet<>(Arrays.asList(FACE)), have = new TreeSet<>();
    for (Method m : c.getDeclaredMethods()) {
      if (Modifier.isPrivate(m.getModifiers())) continue;
      StringBuilder types = new StringBuilder();
      for (Class<?> p : m.getParameterTypes()) types.append(types.length() > 0 ? "," : "").append(p.getName());
      have.add(m.getReturnType().getName() + " " + m.getName() + "(" + types + ")");
      holds(1, m.getName() + " is public and of an object", m.getModifiers() == Modifier.PUBLIC);
    }
    holds(1, "the public methods are those of the document: " + have, want.equals(have));
    holds(1, "one public constructor", c.getDeclaredConstructors().length == 1 && Modifier.isPublic(c.getDeclaredConstructors()[0].getModifiers()));
    Set<String> shown = new TreeSet<>();
    for (Field f : c.getDeclaredFields()) if (!Modifier.isPrivate(f.getModifiers())) shown.add(f.getName() + (f.getModifiers() == (Modifier.PUBLIC | Modifier.STATIC | Modifier.FINAL)));
    holds(1, "the constants are those of the document: " + shown, shown.equals(new TreeSet<>(List.of("BADtrue", "NOtrue", "FULLtrue", "NONEtrue", "VOIDtrue"))));
  }

  private static void classes() {
    List<Class<?>> all = new ArrayList<>(List.of(ForecastHall.class));
    all.addAll(Arrays.asList(ForecastHall.class.getDeclaredClasses()));
    holds(11, "at most twelve classes: " + all.size(), all.size() <= 12);
    Set<String> face = new TreeSet<>();
    for (String f : FACE) face.add(f.substring(f.indexOf(' ') + 1, f.indexOf('(')));
    for (Class<?> c : all) {
      if (c != ForecastHall.class) holds(2, c + " is static and not public", Modifier.isStatic(c.getModifiers()) && !Modifier.isPublic(c.getModifiers()) && !Modifier.isProtected(c.getModifiers()));
      int fields = 0;
      for (Field f : c.getDeclaredFields()) {
        if (Modifier.isStatic(f.getModifiers())) holds(5, f + " is final and a number", Modifier.isFinal(f.getModifiers()) && f.getType().isPrimitive());
        else fields++;
      }
      holds(11, c + " has at most twenty fields: " + fields, fields <= 20);
      for (Method m : c.getDeclaredMethods()) {
        holds(11, m + " takes at most seven parameters", m.getParameterCount() <= 7);
        if (Modifier.isPrivate(m.getModifiers()) || c != ForecastHall.class) holds(1, m + " has no public one's name", !face.contains(m.getName()));
      }
    }
  }

  /** The text without comments, and with texts and signs blotted out. */
  private static String bare(String text) {
    String s = text.replaceAll("(?s)/\\*.*?\\*/", " ").replaceAll("//[^\n]*", "");
    return s.replaceAll("'(\\\\.|[^'\\\\])'", "0").replaceAll("\"(\\\\.|[^\"\\\\])*\"", "0");
  }

  private static void words(String text) {
    for (String word : new String[] {"throw", "throws", "try", "catch", "finally", "synchronized", "assert", "import", "package", "System", "Object", "Thread", "double", "float", "equals", "hashCode", "toString", "goto", "native", "volatile", "abstract", "var", "MAX_VALUE", "MIN_VALUE"}) {
      holds(6, "the word " + word, !Pattern.compile("\\b" + word + "\\b").matcher(text).find());
    }
    for (String sign : new String[] {"->", "::", "@", "Exact"}) holds(2, "the sign " + sign, !text.contains(sign));
    Set<String> used = new TreeSet<>();
    Matcher m = Pattern.compile("\\b(Math|Integer|Long)\\.(\\w+)").matcher(text);
    while (m.find()) used.add(m.group());
    holds(4, "the library is small: " + used, Set.of("Math.max", "Math.min", "Math.abs", "Math.floorDiv", "Integer.numberOfTrailingZeros").containsAll(used));
  }

  /** Methods at most sixty lines long, and the calls that stand open at once at most eight, none of them twice. */
  private static void methods(String text) {
    Matcher m = Pattern.compile("\n( +)(?:[a-z]+ )*[A-Za-z\\[\\]]+ ([a-z]\\w*)\\([^)]*\\) \\{\n").matcher(text);
    List<String> names = new ArrayList<>();
    List<String> bodies = new ArrayList<>();
    while (m.find()) {
      int end = text.indexOf("\n" + m.group(1) + "}", m.end() - 1);
      String body = text.substring(m.end() - 1, end);
      holds(11, m.group(2) + " has at most sixty lines", body.split("\n").length <= 60);
      holds(12, m.group(2) + " makes no object", !Pattern.compile("\\bnew\\b|\\.clone\\(").matcher(body).find());
      names.add(m.group(2));
      bodies.add(body);
    }
    holds(11, "methods are found: " + names.size(), names.size() > 100);
    for (String name : FACE) {
      String call = name.substring(name.indexOf(' ') + 1, name.indexOf('('));
      int deep = deep(call, names, bodies, new ArrayList<>());
      holds(11, call + " goes at most eight calls deep: " + deep, deep <= 8);
    }
  }
  /** What one object holds: some 500 of them still find room in one run. */
  private static void room() throws Exception {
    IdentityHashMap<Object, Boolean> seen = new IdentityHashMap<>();
    long parts = parts(new ForecastHall(), seen);
    holds(12, "one object is made of few others: " + seen.size(), seen.size() <= 120);
    holds(12, "one object has few fields and elements: " + parts, parts <= 14500);
  }
  private static long parts(Object of, IdentityHashMap<Object, Boolean> seen) throws Exception {
    if (of == null || seen.put(of, true) != null) return 0;
    long parts = 0;
    if (of.getClass().isArray()) {
      for (int i = 0; i < Array.getLength(of); i++) parts += 1 + (of.getClass().getComponentType().isPrimitive() ? 0 : parts(Array.get(of, i), seen));
      return parts;
    }
    for (Field f : of.getClass().getDeclaredFields()) {
      if (Modifier.isStatic(f.getModifiers())) continue;
      f.setAccessible(true);
      parts += 1 + (f.getType().isPrimitive() ? 0 : parts(f.get(of), seen));
    }
    return parts;
  }
  private static int deep(String name, List<String> names, List<String> bodies, List<String> open) {
    if (open.contains(name)) return 99;
    open.add(name);
    int most = 0;
    for (int i = 0; i < names.size(); i++) {
      if (!names.get(i).equals(name)) continue;
      Matcher m = Pattern.compile("\\b(\\w+)\\(").matcher(bodies.get(i));
      Set<String> called = new TreeSet<>();
      while (m.find()) called.add(m.group(1));
      for (String c : called) {
        if (c.equals(name)) holds(8, name + " does not call itself", false);
        else if (names.contains(c)) most = Math.max(most, deep(c, names, bodies, open));
      }
    }
    open.remove(open.size() - 1);
    return most + 1;
  }
}
