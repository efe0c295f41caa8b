import java.util.Random;

/** Runs of random calls (of a fixed seed) on the program and on the oracle: each answer must be the same. */
public final class OracleTest {
  private static final int CALLS = 512;
  private static int passed = 0, failed = 0;

  public static void main(String[] args) {
    int runs = args.length > 0 ? Integer.parseInt(args[0]) : 600;
    long from = args.length > 1 ? Long.parseLong(args[1]) : 1;
    for (long seed = from; seed < from + runs; seed++) {
      if (run(seed)) passed++; else failed++;
    }
    System.out.println("oracle: " + passed + " passed, " + failed + " failed");
    if (failed > 0) System.exit(1);
  }

  private final Random random;
  private final ForecastHall x = new ForecastHall();
  private final Oracle o = new Oracle();
  private final StringBuilder log = new StringBuilder();
  private int calls = 0;
  private boolean same = true;
  private int shares = 2, groups = 1;

  private OracleTest(long seed) { random = new Random(seed * 7919); }

  private static boolean run(long seed) {
    OracleTest t = new OracleTest(seed);
    if (seed % 7 != 0) { t.anySky(); t.anyText(); t.anyFirsts(); }
    while (t.calls < CALLS && t.same) t.anyCall();
    if (!t.same) System.out.println("seed " + seed + ":\n" + t.log);
    return t.same;
  }

  private void due(String call, long got, long want) {
    if (calls >= CALLS || !same) return;
    calls++;
    log.append(call).append(" -> ").append(got).append('\n');
    if (got != want) { same = false; log.append("   due is ").append(want).append('\n'); }
  }

  private boolean chance(int percent) { return random.nextInt(100) < percent; }
  private int in(int low, int high) { return low + random.nextInt(high - low + 1); }
  /** Mostly in its bounds, at times on a bound or off it. */
  private int near(int low, int high) {
    if (chance(3)) return low - 1;
    if (chance(3)) return high + 1;
    if (chance(1)) return random.nextInt();
    return chance(8) ? low : chance(8) ? high : in(low, high);
  }
  private int anyCell() { return near(0, o.w * o.h - 1); }
  private int anyLetter() { return chance(60) && !o.plan.isEmpty() ? o.plan.get(random.nextInt(o.plan.size())).letter() : near(0, 3); }
  private int anyFirst() { return chance(10) ? 2000000 : chance(60) ? in(-100, 100) : near(-1000000, 1000000); }

  private void anySky() {
    int w = near(2, 6), h = chance(50) ? near(2, 3) : near(2, 6);
    due("sky(" + w + "," + h + ")", x.sky(w, h), o.sky(w, h));
  }
  private void anyFirsts() {
    for (int c = 0; c < o.w * o.h; c++) for (int l = 0; l < 4; l++) if (chance(40)) setFirst(c, l, anyFirst());
  }
  private void setFirst(int c, int l, int v) { due("first(" + c + "," + l + "," + v + ")", x.first(c, l, v), o.first(c, l, v)); }

  private String anyName(String told) {
    String name = String.valueOf("abcd".charAt(random.nextInt(4)));
    if (!told.isEmpty() && chance(25)) return told.charAt(random.nextInt(told.length())) + "'";
    if (chance(50)) name += "nesw".charAt(random.nextInt(4));
    return chance(1) ? name + "'" : name;
  }
  private String anyPlan() {
    StringBuilder text = new StringBuilder();
    String told = "";
    int lines = in(0, 4);
    for (int k = 0; k < lines; k++) {
      char letter = "abcd".charAt(random.nextInt(4));
      if (told.indexOf(letter) >= 0 && !chance(5)) continue;
      text.append(letter).append('=');
      int terms = chance(10) ? in(1, 30) : in(1, 5), wide = chance(30) ? 999 : 4;
      boolean own = chance(25);
      int together = 0;
      for (int t = 0; t < terms; t++) {
        boolean minus = chance(30);
        if (minus) text.append('-'); else if (t > 0 || chance(10)) text.append('+');
        int factor = chance(50) ? chance(5) ? near(1, wide) : in(1, wide) : 1;
        if (factor != 1 || chance(10)) text.append(factor);
        together += minus ? -factor : factor;
        text.append(own ? letter + (chance(60) ? "" + "nesw".charAt(random.nextInt(4)) : "") : anyName(told));
        if (!own && chance(15)) text.append('.').append(anyName(told));
      }
      if (own && chance(80) && together > 0) { if (together > 1) text.append('/').append(together); }
      else if (chance(50)) text.append('/').append(chance(50) ? in(1, 10) : chance(5) ? near(1, 1000) : in(1, 1000));
      if (chance(30)) text.append('~');
      text.append(';');
      told += letter;
    }
    return text.toString();
  }
  private String spoilt(String text) {
    StringBuilder s = new StringBuilder(text);
    String signs = "abcdnesw='+-./~;0123456789 x";
    for (int k = in(1, 2); k > 0; k--) {
      int i = random.nextInt(s.length() + 1);
      char c = chance(3) ? (char) random.nextInt(256) : signs.charAt(random.nextInt(signs.length()));
      if (chance(40)) s.insert(i, c);
      else if (i < s.length() && chance(50)) s.setCharAt(i, c);
      else if (i < s.length() && chance(70)) s.deleteCharAt(i);
      else s.setLength(i);
    }
    return s.toString();
  }
  private void write(int n, long v) { due("write(" + n + "," + v + "L)", x.write(n, v), o.write(n, v)); }
  private void anyText() {
    due("wipe()", x.wipe(), o.wipe());
    String text = anyPlan();
    if (chance(20)) text = spoilt(text);
    for (int i = 0; i < text.length(); ) {
      int n = Math.min(chance(80) ? 8 : in(1, 8), text.length() - i);
      long v = chance(20) ? random.nextLong() : 0;
      for (int k = 0; k < n; k++) v = v << 8 | text.charAt(i + k);
      if (n == 8) { v = 0; for (int k = 0; k < n; k++) v = v << 8 | text.charAt(i + k); }
      write(n, v);
      i += n;
    }
    due("fault()", x.fault(), o.fault());
    due("plan()", x.plan(), o.plan());
  }

  private void anyCall() {
    switch (random.nextInt(10)) {
      case 0: case 1: case 2: changeNumbers(); break;
      case 3: case 4: askNumbers(); break;
      case 5: askPlan(); break;
      case 6: case 7: checks(); break;
      default: people();
    }
  }

  private void changeNumbers() {
    switch (random.nextInt(12)) {
      case 0: if (chance(15)) { anySky(); if (chance(70)) anyFirsts(); } break;
      case 1: { int what = near(0, 1), v = near(0, what == 0 ? 2 : 9); due("rule(" + what + "," + v + ")", x.rule(what, v), o.rule(what, v)); break; }
      case 2: { int l = near(0, 3), v = chance(50) ? in(-50, 50) : near(-1000000, 1000000); due("rim(" + l + "," + v + ")", x.rim(l, v), o.rim(l, v)); break; }
      case 3: if (chance(30)) anyText(); break;
      case 4: case 5: setFirst(anyCell(), near(0, 3), anyFirst()); break;
      case 6: case 7: case 8: {
        int s = chance(60) ? near(1, 4) : near(1, 12), c = anyCell(), l = anyLetter(), a = chance(50) ? in(-5, 5) : near(-1000000, 1000000);
        for (int times = chance(20) ? 2 : 1; times > 0; times--) due("slip(" + s + "," + c + "," + l + "," + a + ")", x.slip(s, c, l, a), o.slip(s, c, l, a));
        break;
      }
      case 9: due("mend()", x.mend(), o.mend()); break;
      case 10: due("keep()", x.keep(), o.keep()); break;
      default: due("back()", x.back(), o.back());
    }
  }

  private void askNumbers() {
    int s = near(0, 12), c = anyCell(), l = anyLetter();
    boolean right = chance(40);
    switch (random.nextInt(8)) {
      case 0: case 1: case 2: due("at(" + right + "," + s + "," + c + "," + l + ")", x.at(right, s, c, l), o.at(right, s, c, l)); break;
      case 3: due("marked(" + s + "," + c + "," + l + ")", x.marked(s, c, l), o.marked(s, c, l)); break;
      case 4: due("sum(" + right + "," + s + "," + l + ")", x.sum(right, s, l), o.sum(right, s, l)); break;
      case 5: case 6: { int i = near(0, Math.max(0, o.slips.size() - 1)), n = near(1, 12), what = near(0, 2);
        due("spread(" + i + "," + n + "," + what + ")", x.spread(i, n, what), o.spread(i, n, what)); break; }
      default: { int n = near(1, 12), e = chance(70) ? in(0, 3) : near(0, 1000000); due("coarse(" + n + "," + l + "," + e + ")", x.coarse(n, l, e), o.coarse(n, l, e)); }
    }
  }

  private void askPlan() {
    int l = near(0, 3), what = near(0, 4), k = near(0, 6);
    switch (random.nextInt(6)) {
      case 0: due("line(" + l + "," + what + ")", x.line(l, what), o.line(l, what)); break;
      case 1: due("kept(" + l + ")", x.kept(l), o.kept(l)); break;
      case 2: due("grows()", x.grows(), o.grows()); break;
      case 3: due("fault()", x.fault(), o.fault()); break;
      case 4: if (chance(30)) write(near(1, 8), random.nextLong()); break;
      default: due("count(" + k + ")", x.count(k), o.count(k));
    }
  }

  private void tell(int s, int l, boolean column, int i, long v) {
    due("tell(" + s + "," + l + "," + column + "," + i + "," + v + "L)", x.tell(s, l, column, i, v), o.tell(s, l, column, i, v));
  }
  /** All sums told, off by what some changed cells would make. */
  private void tellAll() {
    int s = in(0, 12), l = in(0, 3);
    long[] rows = new long[o.h], columns = new long[o.w];
    for (int y = 0; y < o.h; y++) rows[y] = o.hall(false).sum(s, l, y, -1);
    for (int xx = 0; xx < o.w; xx++) columns[xx] = o.hall(false).sum(s, l, -1, xx);
    for (int k = in(0, 7); k > 0; k--) {
      int y = in(0, o.h - 1), xx = in(0, o.w - 1), v = in(-2, 2);
      rows[y] += v; columns[xx] += v;
    }
    if (chance(10)) rows[0]++;
    for (int y = 0; y < o.h; y++) tell(s, l, false, y, rows[y]);
    for (int xx = 0; xx < o.w; xx++) tell(s, l, true, xx, columns[xx]);
    // trying all groups of eleven or twelve rows and columns takes the oracle seconds: seldom then
    if (o.w + o.h < 10 || groups-- > 0) due("least()", x.least(), o.least());
  }
  private void putAll() {
    int s = in(1, 12), l = in(0, 3);
    for (int c = 0; c < o.w * o.h; c++) {
      int v = chance(97) ? o.hall(chance(80)).made(s, c, l) : in(-9, 9);
      due("put(" + c + "," + v + ")", x.put(c, v), o.put(c, v));
    }
    due("judge(" + s + "," + l + ")", x.judge(s, l), o.judge(s, l));
  }
  private void checks() {
    int s = near(1, 12), c = anyCell(), l = anyLetter();
    switch (random.nextInt(9)) {
      case 0: if (chance(40)) tellAll(); break;
      case 1: { boolean column = chance(50); int i = near(0, (column ? o.w : o.h) - 1);
        boolean other = chance(15);
        int ts = other ? near(0, 12) : o.toldStep, tl = other ? near(0, 3) : o.toldLetter;
        long v = chance(20) ? 2000000000000L : chance(10) ? 1000000000001L : chance(10) ? -1000000000001L : chance(10) ? 1000000000000L : chance(10) ? -1000000000000L : in(-300, 300);
        tell(ts, tl, column, i, v); break; }
      case 2: due("fails()", x.fails(), o.fails()); break;
      case 3: if (o.w + o.h < 10 || o.told.size() < o.w + o.h) due("least()", x.least(), o.least()); break;
      case 4: case 5: if (chance(50) && !o.slips.isEmpty()) { Oracle.Slip p = o.slips.get(random.nextInt(o.slips.size())); s = p.step(); c = p.cell(); }
        due("second(" + s + "," + c + ")", x.second(s, c), o.second(s, c)); break;
      case 6: if (chance(20)) putAll(); break;
      case 7: { int v = near(-1000000000, 1000000000); due("put(" + c + "," + v + ")", x.put(c, v), o.put(c, v)); break; }
      default: due("judge(" + s + "," + l + ")", x.judge(s, l), o.judge(s, l));
    }
  }

  private void people() {
    int s = near(0, 12), c = anyCell(), p = near(0, 5);
    switch (random.nextInt(10)) {
      case 0: { int v = near(1, 20); due("pace(" + p + "," + v + ")", x.pace(p, v), o.pace(p, v)); break; }
      case 1: case 2: case 3: due("give(" + c + "," + p + ")", x.give(c, p), o.give(c, p)); break;
      case 4: { int cell = chance(30) ? -1 : anyCell(); due("when(" + s + "," + cell + ")", x.when(s, cell), o.when(s, cell)); break; }
      case 5: due("slowest(" + s + ")", x.slowest(s), o.slowest(s)); break;
      case 6: case 7: { int m = chance(80) ? in(0, 400) : near(0, 100000); due("known(" + c + "," + m + ")", x.known(c, m), o.known(c, m)); break; }
      case 8: { int m = o.when(in(0, 12), c); if (m > 0) { m -= in(0, 1); due("known(" + c + "," + m + ")", x.known(c, m), o.known(c, m)); } break; }
      default: {
        int q = near(1, 3), n = chance(70) ? near(0, 3) : near(0, 12);
        // all ways to give nine cells to three take the oracle a while: seldom then
        if (q == 3 && o.w * o.h > 6 && o.w * o.h <= 9 && shares-- <= 0) break;
        for (int k = chance(40) ? 9 : 1; k > 0; k--) { int cell = chance(20) ? -1 : anyCell(); due("given(" + q + "," + n + "," + cell + ")", x.given(q, n, cell), o.given(q, n, cell)); }
      }
    }
  }
}
