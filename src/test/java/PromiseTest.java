/**
 * For each promise of the document: ordinary calls, the edges that it names, and wrong calls. The
 * answers that are due were reckoned by hand from the document.
 */
public final class PromiseTest {
  private static final int GAP = 2000000;
  private static final int VOID = 2000000000;
  private static final long UNTOLD = 2000000000000L;
  private static int passed = 0, failed = 0, promise = 0, calls = 0;
  private static ForecastHall x;

  private static void due(long got, long want) {
    calls++;
    if (got == want) passed++;
    else { failed++; System.out.println("promise " + promise + ", call " + calls + ": answered " + got + ", due is " + want); }
  }
  private static void fresh(int ofPromise) {
    if (promise != ofPromise) calls = 0;
    promise = ofPromise;
    x = new ForecastHall();
  }
  private static void fresh() { x = new ForecastHall(); }
  /** Text by eight bytes a call, the rest in one more. */
  private static int write(String text) {
    int length = x.count(1);
    for (int i = 0; i < text.length(); i += 8) {
      int n = Math.min(8, text.length() - i);
      long v = 0;
      for (int k = 0; k < n; k++) v = v << 8 | text.charAt(i + k);
      length = x.write(n, v);
    }
    return length;
  }
  private static int fault(String text) { x.wipe(); write(text); return x.fault(); }
  private static int plan(String text) { x.wipe(); write(text); return x.plan(); }
  private static void firsts(int letter, int... v) { for (int c = 0; c < v.length; c++) x.first(c, letter, v[c]); }
  private static void tellAll(int step, int letter, long[] rows, long[] columns) {
    for (int y = 0; y < rows.length; y++) due(x.tell(step, letter, false, y, rows[y]), 0);
    for (int c = 0; c < columns.length; c++) due(x.tell(step, letter, true, c, columns[c]), 0);
  }

  public static void main(String[] args) {
    newObject(); sky(); rule(); rim();
    write(); wipe(); fault(); plan(); line();
    first(); filled(); at(); made(); marked(); sum(); slip(); mend(); spread(); kept(); grows();
    tell(); fails(); least(); second(); put(); judge();
    pace(); give(); when(); slowest(); given(); known(); coarse(); keep(); back(); count();
    System.out.println("promises: " + passed + " passed, " + failed + " failed");
    if (failed > 0) System.exit(1);
  }

  private static void newObject() {
    fresh(1);
    due(ForecastHall.BAD, -1); due(ForecastHall.NO, -2); due(ForecastHall.FULL, -3); due(ForecastHall.NONE, -4); due(ForecastHall.VOID, VOID);
    due(x.count(0), 9); due(x.count(1), 0); due(x.count(2), 0); due(x.count(3), 36);
    due(x.count(4), 0); due(x.count(5), 0); due(x.count(6), 0);
    due(x.rule(0, 0), 0); due(x.rule(1, 1), 1);
    for (int l = 0; l < 4; l++) { due(x.rim(l, 0), 0); due(x.line(l, 1), -4); due(x.first(8, l, GAP), GAP); }
    for (int p = 0; p < 6; p++) due(x.pace(p, 5), 5);
    for (int c = 0; c < 9; c++) { due(x.give(c, 0), 0); due(x.put(c, 0), 0); }
    // one object knows nothing of another
    x.first(0, 0, 7); plan("a=b;"); x.slip(1, 1, 1, 1); x.keep();
    ForecastHall y = new ForecastHall();
    due(y.count(1), 0); due(y.count(2), 0); due(y.count(3), 36); due(y.count(4), 0); due(y.count(5), 0);
  }

  private static void sky() {
    fresh(2);
    due(x.sky(2, 6), 12); due(x.sky(6, 2), 12); due(x.sky(6, 6), 36); due(x.sky(2, 2), 4); due(x.sky(3, 4), 12);
    due(x.sky(1, 3), -1); due(x.sky(3, 1), -1); due(x.sky(7, 3), -1); due(x.sky(3, 7), -1); due(x.sky(-2, -2), -1);
    due(x.sky(Integer.MIN_VALUE, Integer.MAX_VALUE), -1);
    due(x.count(0), 12); due(x.count(3), 48);
    fresh();
    plan("a=b;"); x.rule(0, 2); x.rule(1, 4); x.rim(1, 9); x.pace(2, 7); x.put(0, 11); x.first(0, 0, 1); x.slip(1, 0, 0, 5);
    x.tell(0, 0, false, 0, 1); x.give(3, 2); x.keep();
    // BAD changes nothing
    due(x.sky(3, 8), -1);
    due(x.count(3), 35); due(x.count(4), 1); due(x.count(5), 1); due(x.count(6), 1);
    due(x.sky(3, 3), 9);
    // gone: first numbers, slips, told sums, kept ones, whose cells are
    due(x.count(3), 36); due(x.count(4), 0); due(x.count(5), 0); due(x.count(6), 0);
    due(x.fails(), -2); due(x.back(), -2); due(x.mend(), -2); due(x.give(3, 0), 0);
    // not gone: text, plan, rules, rims, paces, the judged row
    due(x.count(1), 4); due(x.count(2), 1); due(x.rule(0, 2), 2); due(x.rule(1, 4), 4); due(x.rim(1, 9), 9); due(x.pace(2, 7), 7); due(x.put(0, 11), 11);
    // numbers, sums and minutes are new at once
    fresh();
    x.sky(2, 4); firsts(0, 1, 2, 3, 4, 5, 6, 7, 8); x.give(0, 1); x.slip(1, 0, 0, 4); due(x.sum(false, 1, 0), 40); due(x.when(1, -1), 35); due(x.marked(1, 0, 0), 0); due(x.given(1, 1, -1), 40);
    x.sky(2, 3); due(x.sum(false, 1, 0), 0); due(x.sum(true, 1, 0), 0); due(x.at(false, 0, 1, 0), 0); due(x.when(1, -1), 30); due(x.marked(1, 0, 0), 1); due(x.given(1, 1, -1), 30); due(x.when(1, 0), 5);
    x.sky(2, 4); firsts(0, 0, 0, 0, 0, 0, 0, 7, 8); x.tell(0, 0, true, 0, 7); due(x.fails(), 0); x.sky(2, 3); x.tell(0, 0, true, 0, 0); due(x.fails(), 0); due(x.give(0, 0), 0);
    // cells stand by rows of W
    x.sky(4, 2); x.rule(0, 0); plan("a=as;"); x.first(5, 0, 3);
    due(x.at(true, 1, 1, 0), 3); due(x.at(true, 0, 4, 0), 3);
  }

  private static void rule() {
    fresh(3);
    due(x.rule(0, 2), 0); due(x.rule(0, 1), 2); due(x.rule(0, 1), 1); due(x.rule(1, 9), 1); due(x.rule(1, 0), 9); due(x.rule(1, 3), 0);
    due(x.rule(0, -1), -1); due(x.rule(0, 3), -1); due(x.rule(1, -1), -1); due(x.rule(1, 10), -1); due(x.rule(-1, 0), -1); due(x.rule(2, 0), -1);
    due(x.rule(0, 0), 1); due(x.rule(1, 1), 3);
    // what lies beyond each side, for each edge
    fresh();
    firsts(0, 1, 2, 3, 4, 5, 6, 7, 8, 9);
    x.rim(0, 50);
    int[][] want = {{7, 2, 4, 3}, {1, 2, 4, 1}, {50, 2, 4, 50}};
    int[][] wantLast = {{6, 7, 3, 8}, {6, 9, 9, 8}, {6, 50, 50, 8}};
    String[] sides = {"a=an;", "a=ae;", "a=as;", "a=aw;"};
    for (int edge = 0; edge < 3; edge++) {
      x.rule(0, edge);
      for (int side = 0; side < 4; side++) {
        plan(sides[side]);
        due(x.at(true, 1, 0, 0), want[edge][side]);
        due(x.at(true, 1, 8, 0), wantLast[edge][side]);
        due(x.at(true, 1, 4, 0), new int[] {2, 6, 8, 4}[side]);
      }
    }
  }

  private static void rim() {
    fresh(4);
    due(x.rim(0, 1000000), 0); due(x.rim(0, -1000000), 1000000); due(x.rim(0, 3), -1000000); due(x.rim(3, 4), 0);
    due(x.rim(-1, 0), -2000000); due(x.rim(4, 0), -2000000); due(x.rim(0, 1000001), -2000000); due(x.rim(0, -1000001), -2000000);
    due(x.rim(0, Integer.MIN_VALUE), -2000000);
    due(x.rim(0, 3), 3); due(x.rim(3, 4), 4); due(x.rim(1, 0), 0);
    // each letter has its own; it counts from step to step
    x.rule(0, 2); plan("a=bn+dw;"); x.rim(1, 10); x.rim(3, 200);
    firsts(1, 0, 0, 0, 0, 0, 0, 0, 0, 0); firsts(3, 0, 0, 0, 0, 0, 0, 0, 0, 0);
    due(x.at(true, 1, 0, 0), 210); due(x.at(true, 1, 1, 0), 10); due(x.at(true, 1, 3, 0), 200); due(x.at(true, 1, 4, 0), 0); due(x.at(true, 12, 0, 0), 210);
    x.rim(1, 11);
    due(x.at(true, 12, 0, 0), 211);
  }

  private static void write() {
    fresh(5);
    due(x.write(0, 0), -1); due(x.write(9, 0), -1); due(x.write(-1, 0), -1); due(x.write(Integer.MIN_VALUE, 0), -1); due(x.count(1), 0);
    // the highest first; what is above n bytes does not count
    due(x.write(1, 'a'), 1); due(x.write(3, 0x7777_3d62_3bL), 4); due(x.fault(), -4); due(x.plan(), 1); due(x.line(0, 1), 1);
    fresh();
    for (int i = 1; i <= 19; i++) due(x.write(8, -1L), 8 * i);
    due(x.write(7, 0), 159); due(x.write(2, 0), -3); due(x.write(8, 0), -3); due(x.write(0, 0), -1); due(x.write(9, 0), -1);
    due(x.count(1), 159); due(x.write(1, 0), 160); due(x.write(1, 0), -3); due(x.count(1), 160); due(x.fault(), 0);
    fresh();
    due(x.write(8, 0x613d622b633b623dL), 8); due(x.write(2, 0x633bL), 10); due(x.fault(), -4); due(x.plan(), 2);
    due(x.line(0, 1), 2); due(x.line(1, 0), 1);
    // a byte above 127 is a byte, not a letter
    fresh();
    due(x.write(4, 0xe13d623bL), 4); due(x.fault(), 0);
  }

  private static void wipe() {
    fresh(6);
    due(x.wipe(), 0); write("a=b;"); due(x.plan(), 1); due(x.wipe(), 4); due(x.wipe(), 0); due(x.count(1), 0); due(x.count(2), 1);
    due(x.fault(), -4); due(write("c=d;"), 4); due(x.plan(), 1); due(x.line(2, 0), 0); due(x.line(0, 0), -4);
  }

  private static void fault() {
    fresh(7);
    due(x.fault(), -4);
    String[] whole = {"a=b;", "a=+b;", "a=-b;", "a=999b;", "a=b/1000;", "a=b/1;", "a=b~;", "a=b/2~;", "a=a.a;", "a=an.bw+2ce-d;",
      "a=b;b=a';", "a=b;b=a'.a'+a;", "d=d;c=d';b=c'+d';a=b'-c';", "a=-1an/7~;b=2c.d;"};
    for (String text : whole) due(fault(text), -4);
    // where a line begins
    due(fault("e=b;"), 0); due(fault("A=b;"), 0); due(fault(" a=b;"), 0); due(fault(";"), 0); due(fault("="), 0); due(fault("`=b;"), 0);
    due(fault("a=b;;"), 4); due(fault("a=b; "), 4); due(fault("a=b;a=c;"), 4); due(fault("a=b;b=c;a"), 8); due(fault("a=b;b=b;c=b;d=b;a=b;"), 16);
    due(fault("a=b;b=b;c=b;d=b;e"), 16); due(fault("a=b;a"), 4);
    due(fault("a"), 1); due(fault("a=b;b"), 5); due(fault("a:b;"), 1); due(fault("ab;"), 1); due(fault("a="), 2); due(fault("a=;"), 2);
    // terms
    due(fault("a=+"), 3); due(fault("a=++b;"), 3); due(fault("a=+-b;"), 3); due(fault("a=b+;"), 4); due(fault("a=b-/2;"), 4); due(fault("a=bb;"), 3); due(fault("a=b2c;"), 3);
    due(fault("a=e;"), 2); due(fault("a=n;"), 2); due(fault("a=bne;"), 4); due(fault("a=b n;"), 3); due(fault("a=b*c;"), 3); due(fault("a=b"), 3); due(fault("a=b+c"), 5);
    // factors
    due(fault("a=0b;"), 2); due(fault("a=00b;"), 2); due(fault("a=01b;"), 2); due(fault("a=1000b;"), 2); due(fault("a=b+1000c;"), 4); due(fault("a=99999999999999999999b;"), 2);
    due(fault("a=4294967297b;"), 2); due(fault("a=10"), 4); due(fault("a=1000"), 2); due(fault("a=5;"), 3); due(fault("a=5+b;"), 3); due(fault("a=5.b;"), 3); due(fault("a=5 b;"), 3); due(fault("a=-07b;"), 3);
    // products
    due(fault("a=b."), 4); due(fault("a=b.;"), 4); due(fault("a=b.2c;"), 4); due(fault("a=b.+c;"), 4); due(fault("a=b.c.d;"), 5); due(fault("a=b.e;"), 4); due(fault("a=.b;"), 2);
    // names at this step
    due(fault("a=a';"), 2); due(fault("a=b';"), 2); due(fault("a=b;b=b';"), 6); due(fault("a=b;b=c';"), 6); due(fault("a=b;b=an';"), 6); due(fault("a=b;b=2aw'+b;"), 7);
    due(fault("a=b;b=a'n;"), 8); due(fault("a=b;b=a'';"), 8); due(fault("a=b;b=c.c';"), 8); due(fault("a=b+3c.a';b=b;"), 7); due(fault("a='b;"), 2); due(fault("a=b;b=a'"), 8);
    // divisors
    due(fault("a=b/"), 4); due(fault("a=b/;"), 4); due(fault("a=b/0;"), 4); due(fault("a=b/01;"), 4); due(fault("a=b/1001;"), 4); due(fault("a=b/10000000000;"), 4); due(fault("a=b/1001"), 4);
    due(fault("a=b/-2;"), 4); due(fault("a=b/+2;"), 4); due(fault("a=b/2"), 5); due(fault("a=b/2/2;"), 5); due(fault("a=b/2+c;"), 5); due(fault("a=b/2b;"), 5);
    // ~ and the end of a line
    due(fault("a=b~"), 4); due(fault("a=b~~;"), 4); due(fault("a=b~/2;"), 4); due(fault("a=~;"), 2); due(fault("a=b/~;"), 4); due(fault("a=b:"), 3);
    // a fault changes nothing, and the text goes on from where it was
    due(x.count(2), 0); x.wipe(); write("a="); due(x.fault(), 2); write("b"); due(x.fault(), 3); write(";"); due(x.fault(), -4);
    // as many terms as the text has room for
    StringBuilder longest = new StringBuilder("a=b");
    while (longest.length() < 159) longest.append("-b");
    due(fault(longest + ";"), -4); due(x.count(1), 160); due(x.plan(), 1); due(x.line(0, 1), 79);
    due(fault(longest.substring(0, 158)), 158); due(fault(longest.substring(0, 159)), 159); due(fault(longest + "-"), 160);
  }

  private static void plan() {
    fresh(8);
    due(x.plan(), 0); due(plan("a=b;"), 1); due(plan("d=a;c=d';a=a;b=b;"), 4); due(x.count(2), 4);
    due(plan("a=b"), -2); due(x.count(2), 4); due(x.line(3, 0), 0); due(x.line(2, 0), 1);
    due(plan("a=c;a=b;"), -2); due(x.line(0, 0), 2);
    // the text stays, and what is written later is no plan yet
    due(plan("a=2b;"), 1); due(x.count(1), 5); write("b=a;"); due(x.count(2), 1); due(x.plan(), 2);
    due(plan(""), 0); due(x.count(2), 0); due(x.line(0, 0), -4); due(x.grows(), 1);
  }

  private static void line() {
    fresh(9);
    due(plan("c=a+bn-3d.d;a=a;b=-cs/1000~;"), 3);
    int[][] want = {{1, 1, 1, 0, 0}, {2, 1, 1000, 1, 0}, {0, 3, 1, 0, 1}, {-4, -4, -4, -4, -4}};
    for (int l = 0; l < 4; l++) for (int what = 0; what < 5; what++) due(x.line(l, what), want[l][what]);
    due(x.line(-1, 0), -1); due(x.line(4, 0), -1); due(x.line(0, -1), -1); due(x.line(0, 5), -1); due(x.line(3, 5), -1); due(x.line(4, 5), -1);
    // of the plan, not of the text
    x.wipe(); write("d=d/7;"); due(x.line(3, 2), -4); due(x.plan(), 1); due(x.line(3, 2), 7); due(x.line(0, 2), -4);
  }

  private static void first() {
    fresh(10);
    due(x.first(0, 0, 1000000), GAP); due(x.first(0, 0, -1000000), 1000000); due(x.first(0, 0, 0), -1000000); due(x.first(0, 0, GAP), 0); due(x.first(0, 0, GAP), GAP);
    due(x.first(8, 3, 4), GAP); due(x.first(8, 3, 4), 4);
    due(x.first(-1, 0, 0), -2000000); due(x.first(9, 0, 0), -2000000); due(x.first(0, -1, 0), -2000000); due(x.first(0, 4, 0), -2000000);
    due(x.first(0, 0, 1000001), -2000000); due(x.first(0, 0, -1000001), -2000000); due(x.first(0, 0, 1999999), -2000000); due(x.first(0, 0, -2000000), -2000000); due(x.first(0, 0, VOID), -2000000);
    due(x.first(Integer.MAX_VALUE, 0, 0), -2000000); due(x.first(Integer.MIN_VALUE, 0, 0), -2000000);
    due(x.count(3), 35); due(x.at(true, 0, 8, 3), 4); x.first(8, 3, 6); due(x.at(true, 0, 8, 3), 6); due(x.at(false, 12, 8, 3), 6);
    x.sky(6, 6); due(x.first(35, 0, 1), GAP); due(x.first(36, 0, 1), -2000000); x.sky(2, 2); due(x.first(4, 0, 1), -2000000); due(x.first(3, 0, 1), GAP);
  }

  private static void filled() {
    promise = 10;
    fresh();
    // of told ones alone: 4 gap with 1 (n), 5 (e); -3 over two is -2 by rounding down
    x.first(1, 0, -8); x.first(5, 0, 5);
    due(x.at(true, 0, 4, 0), -2);
    // no told neighbour: 0; what is filled itself does not count
    due(x.at(true, 0, 3, 0), 5); due(x.at(true, 0, 6, 0), 0); due(x.at(true, 0, 0, 0), -8);
    due(x.at(true, 0, 8, 0), 5); due(x.at(true, 0, 4, 1), 0);
    // beyond the edge: the other side, itself (a gap: not told), the rim
    fresh();
    x.first(2, 0, 7); x.first(6, 0, 2);
    due(x.at(true, 0, 0, 0), 4); x.rule(0, 1); due(x.at(true, 0, 0, 0), 0); x.rule(0, 2); x.rim(0, -5); due(x.at(true, 0, 0, 0), -5);
    x.first(1, 0, 5); due(x.at(true, 0, 0, 0), -2); x.rim(0, 0); due(x.at(true, 0, 0, 0), 1); due(x.at(true, 0, 4, 0), 5);
    // two by two: a neighbour stands on two sides and counts twice
    fresh();
    x.sky(2, 3); x.first(1, 0, 10); x.first(2, 0, 1);
    due(x.at(true, 0, 0, 0), 7);
  }

  private static void at() {
    fresh(11);
    due(x.at(true, 0, 0, 0), 0); due(x.at(false, 12, 8, 3), 0);
    due(x.at(true, -1, 0, 0), -2000000000); due(x.at(true, 13, 0, 0), -2000000000); due(x.at(true, 0, -1, 0), -2000000000); due(x.at(true, 0, 9, 0), -2000000000);
    due(x.at(false, 0, 0, -1), -2000000000); due(x.at(false, 0, 0, 4), -2000000000); due(x.at(false, Integer.MAX_VALUE, Integer.MAX_VALUE, Integer.MAX_VALUE), -2000000000);
    // the hall's with slips, the right one without
    x.first(0, 1, 5); x.slip(3, 0, 1, 100);
    due(x.at(false, 2, 0, 1), 5); due(x.at(false, 3, 0, 1), 105); due(x.at(false, 12, 0, 1), 105); due(x.at(true, 3, 0, 1), 5); due(x.at(true, 12, 0, 1), 5);
    // asked backwards as well as forwards
    plan("b=b+c;"); x.first(0, 2, 1);
    due(x.at(true, 12, 0, 1), 17); due(x.at(true, 1, 0, 1), 6); due(x.at(true, 0, 0, 1), 5); due(x.at(false, 4, 0, 1), 109);
  }

  private static int one(String text, int a, int b) {
    fresh();
    plan(text); firsts(0, a, a, a, a, a, a, a, a, a); firsts(1, b, b, b, b, b, b, b, b, b);
    return x.at(true, 1, 4, 0);
  }

  private static void made() {
    promise = 11;
    // rounded down, and to the nearest with half a one up
    due(one("a=a/2;", 7, 0), 3); due(one("a=a/2;", -7, 0), -4); due(one("a=a/2~;", 7, 0), 4); due(one("a=a/2~;", -7, 0), -3); due(one("a=a/3~;", 7, 0), 2); due(one("a=a/3~;", 8, 0), 3);
    due(one("a=a/3~;", -7, 0), -2); due(one("a=a/3~;", -8, 0), -3); due(one("a=a/1000~;", -500, 0), 0); due(one("a=a/1000~;", -501, 0), -1); due(one("a=a~;", -7, 0), -7);
    due(one("a=a/1000;", -1, 0), -1); due(one("a=-a/2;", 7, 0), -4); due(one("a=3a-2b/5;", 4, 9), -2); due(one("a=a-3a;", 5, 0), -10); due(one("a=2a.b;", 5, -3), -30);
    // a size of 1000000000 still stands
    due(one("a=1a.b;", 1000000, 1000), 1000000000); due(one("a=a.b+a/1000;", 1000000, 1000), 1001000); due(one("a=a.b+a;", 1000000, 1000), VOID);
    due(one("a=-a.b;", 1000000, 1000), -1000000000); due(one("a=-a.b-a;", 1000000, 1000), VOID); due(one("a=a.b+c;", 1000000, 1001), VOID);
    due(one("a=a.b/1000;", 1000000, 1000000), 1000000000); due(one("a=a.b+b/1000~;", 1000000, 1000000), VOID);
    due(one("a=a.b+499c/1000~;", 1000000, 1000000), 1000000000);
    // a term, and the sum, may be of size 1000000000000000; parts of the sum may be above
    due(one("a=999a.b-998a.b/1000;", 1000000, 1000000), 1000000000); due(one("a=999a.b+a.b-999a.b/1000;", 1000000, 1000000), 1000000000);
    due(one("a=999a.b+999a.b-999a.b-998a.b/1000;", 1000000, 1000000), 1000000000);
    due(one("a=999a.b+a.b/1000;", 1000000, 1000000), VOID); due(one("a=999a.b+2a.b-a.b/1000;", 1000000, 1000000), VOID);
    // factor and product beyond a long's room: b is made 1000000000 first
    fresh();
    plan("b=999c.c+c.c/1000;a=a+999b.b-999b.b;c=c;d=b.b/1000;"); firsts(2, 1000000, 1000000, 1000000, 1000000, 1000000, 1000000, 1000000, 1000000, 1000000); firsts(1, 5, 5, 5, 5, 5, 5, 5, 5, 5);
    due(x.at(true, 1, 0, 1), VOID); due(x.at(true, 1, 0, 3), 0); due(x.at(true, 2, 0, 0), VOID); due(x.at(true, 3, 0, 0), VOID); due(x.at(true, 2, 0, 3), VOID);
    fresh();
    plan("b=c.c/1000;a=999b.b;d=b;"); firsts(2, 1000000, 1000000, 1000000, 1000000, 1000000, 1000000, 1000000, 1000000, 1000000);
    due(x.at(true, 1, 0, 1), 1000000000); due(x.at(true, 2, 0, 0), VOID); due(x.at(true, 2, 0, 3), 1000000000);
    // a term's size counts even where the sum is small
    fresh();
    plan("b=c.c/1000;a=b.c-b.c;d=2b.c-2b.c;"); firsts(2, 1000000, 1000000, 1000000, 1000000, 1000000, 1000000, 1000000, 1000000, 1000000);
    due(x.at(true, 2, 0, 0), 0); due(x.at(true, 2, 0, 3), VOID);
    // VOID spreads to all that leans on it, one cell a step; a product with 0 is VOID too
    fresh();
    x.sky(6, 2); plan("a=a+b.b-b.b;b=b+bw+c.c;"); for (int c = 0; c < 12; c++) { x.first(c, 0, 1); x.first(c, 1, 0); x.first(c, 2, 0); }
    x.first(0, 2, 1000000);
    due(x.at(true, 1, 0, 1), VOID); due(x.at(true, 1, 1, 1), 0); due(x.at(true, 1, 0, 0), 1); due(x.at(true, 2, 0, 0), VOID); due(x.at(true, 2, 1, 1), VOID); due(x.at(true, 2, 2, 1), 0); due(x.at(true, 3, 1, 0), VOID);
    // with ' at this step, by lines in the order of the text; a letter without a line stays
    fresh();
    plan("b=a;c=b'+b;a=c'.b';"); x.first(0, 0, 2); x.first(0, 1, 30); x.first(0, 2, 7); x.first(0, 3, -4);
    due(x.at(true, 1, 0, 1), 2); due(x.at(true, 1, 0, 2), 32); due(x.at(true, 1, 0, 0), 64); due(x.at(true, 1, 0, 3), -4);
    due(x.at(true, 2, 0, 1), 64); due(x.at(true, 2, 0, 2), 66); due(x.at(true, 2, 0, 0), 4224); due(x.at(true, 12, 0, 3), -4);
  }

  private static void marked() {
    fresh(12);
    due(x.marked(0, 0, 0), 1); due(x.marked(12, 8, 3), 1); x.first(4, 1, 0); due(x.marked(0, 4, 1), 0); due(x.marked(12, 4, 1), 0);
    due(x.marked(-1, 0, 0), -1); due(x.marked(13, 0, 0), -1); due(x.marked(0, -1, 0), -1); due(x.marked(0, 9, 0), -1); due(x.marked(0, 0, -1), -1); due(x.marked(0, 0, 4), -1);
    // one gap spreads by the sides that a line names
    fresh();
    x.sky(6, 2);
    for (int c = 0; c < 12; c++) for (int l = 0; l < 4; l++) x.first(c, l, 1);
    x.first(0, 0, GAP); plan("a=aw;b=c;c=b.b;d=d.a+c;");
    due(x.marked(0, 0, 0), 1); due(x.marked(0, 1, 0), 0); due(x.marked(1, 0, 0), 0); due(x.marked(1, 1, 0), 1); due(x.marked(2, 2, 0), 1); due(x.marked(2, 1, 0), 0); due(x.marked(6, 0, 0), 1);
    due(x.marked(1, 6, 0), 0); due(x.marked(12, 3, 1), 0); due(x.marked(12, 3, 2), 0);
    // the second name of a product counts; once marked by its own number, it stays marked
    due(x.marked(1, 0, 3), 1); due(x.marked(1, 1, 3), 0); due(x.marked(2, 1, 3), 1); due(x.marked(12, 1, 3), 1); due(x.marked(12, 7, 3), 0);
    // with ' at once, not a step later
    plan("a=a;b=a';c=a;"); due(x.marked(1, 0, 1), 1); due(x.marked(1, 0, 2), 1); due(x.marked(0, 0, 1), 0);
    plan("b=b;a=b';c=a;"); due(x.marked(1, 0, 0), 0); due(x.marked(1, 0, 2), 1); due(x.marked(2, 0, 2), 0);
    // a rim is told, itself beyond the edge is not another
    plan("a=an;"); due(x.marked(1, 6, 0), 1); due(x.marked(1, 0, 0), 0); x.rule(0, 2); due(x.marked(1, 6, 0), 1); due(x.marked(2, 6, 0), 0); x.rule(0, 1); due(x.marked(12, 0, 0), 1);
    // a slip is no gap
    x.slip(1, 3, 1, 1); due(x.marked(1, 3, 1), 0);
  }

  private static void sum() {
    fresh(13);
    firsts(2, 1, 2, 3, 4, 5, 6, 7, 8, -100);
    due(x.sum(true, 0, 2), -64); due(x.sum(false, 12, 2), -64); due(x.sum(true, 0, 0), 0);
    due(x.sum(true, -1, 0), -2000000000000L); due(x.sum(true, 13, 0), -2000000000000L); due(x.sum(false, 0, -1), -2000000000000L); due(x.sum(false, 0, 4), -2000000000000L);
    x.slip(2, 8, 2, 50); due(x.sum(false, 1, 2), -64); due(x.sum(false, 2, 2), -14); due(x.sum(true, 2, 2), -64);
    // VOID counts 0; sums are larger than an int
    plan("c=c.d;"); firsts(3, 1000000, 1000000, 1000000, 1000000, 1000000, 1000000, 1000000, 1000000, 1000000); firsts(2, 1000, 1000, 1000, 1000, 1001, 1000, 1000, 1000, 1000); x.mend();
    due(x.sum(true, 1, 2), 8000000000L); due(x.sum(true, 2, 2), 0);
  }

  private static void slip() {
    fresh(14);
    due(x.slip(0, 0, 0, 1), -1); due(x.slip(13, 0, 0, 1), -1); due(x.slip(1, -1, 0, 1), -1); due(x.slip(1, 9, 0, 1), -1); due(x.slip(1, 0, -1, 1), -1); due(x.slip(1, 0, 4, 1), -1);
    due(x.slip(1, 0, 0, 0), -1); due(x.slip(1, 0, 0, 1000001), -1); due(x.slip(1, 0, 0, -1000001), -1); due(x.slip(1, 0, 0, Integer.MIN_VALUE), -1); due(x.count(4), 0);
    due(x.slip(1, 0, 0, 1000000), 1); due(x.slip(12, 8, 3, -1000000), 2); due(x.at(false, 12, 8, 3), -1000000); due(x.at(false, 11, 8, 3), 0);
    for (int i = 3; i <= 12; i++) due(x.slip(2, 1, 1, i), i);
    due(x.slip(1, 0, 0, 1), -3); due(x.slip(1, 0, 0, 0), -1); due(x.count(4), 12); due(x.at(false, 2, 1, 1), 75);
    // ahead of all that leans on it: this step's names and the next step's
    fresh();
    plan("a=a;b=a'+a;c=an;"); x.slip(1, 3, 0, 10); firsts(0, 0, 0, 0, 0, 0, 0, 0, 0, 0);
    due(x.at(false, 1, 3, 0), 10); due(x.at(false, 1, 3, 1), 10); due(x.at(false, 2, 3, 1), 20); due(x.at(false, 1, 6, 2), 0); due(x.at(false, 2, 6, 2), 10);
    // VOID stays VOID, and above 1000000000 it is VOID; one behind the other
    fresh();
    plan("a=a.b;"); firsts(0, 1000000, 999999, -1000000, 0, 0, 0, 0, 0, 1000000); firsts(1, 1000, 1000, 1000, 0, 0, 0, 0, 0, 1001);
    x.slip(1, 0, 0, 1); x.slip(1, 0, 0, -1); x.slip(1, 1, 0, 1000); x.slip(1, 2, 0, -1); x.slip(1, 8, 0, -1000000); x.slip(1, 3, 0, -7); x.slip(1, 3, 0, 5);
    due(x.at(true, 1, 0, 0), 1000000000); due(x.at(false, 1, 0, 0), VOID); due(x.at(false, 1, 1, 0), 1000000000); due(x.at(false, 1, 2, 0), VOID); due(x.at(true, 1, 2, 0), -1000000000);
    due(x.at(false, 1, 8, 0), VOID); due(x.at(false, 1, 3, 0), -2);
    fresh();
    plan("a=a.b;"); firsts(0, 1000000, -1000000); firsts(1, 1000, 1000);
    x.slip(1, 0, 0, -1); x.slip(1, 0, 0, 1); due(x.at(false, 1, 0, 0), 1000000000);
    x.slip(1, 1, 0, 1); x.slip(1, 1, 0, -1); due(x.at(false, 1, 1, 0), -1000000000);
  }

  private static void mend() {
    fresh(15);
    due(x.mend(), -2); x.slip(1, 0, 0, 3); x.slip(1, 0, 0, 4); due(x.at(false, 1, 0, 0), 7); due(x.mend(), 1); due(x.at(false, 1, 0, 0), 3); due(x.count(4), 1);
    x.slip(2, 1, 0, 9); due(x.mend(), 1); due(x.mend(), 0); due(x.mend(), -2); due(x.at(false, 12, 0, 0), 0); due(x.at(false, 12, 1, 0), 0);
  }

  private static void spread() {
    fresh(16);
    due(x.spread(-1, 1, 0), -1); due(x.spread(0, 0, 0), -1); due(x.spread(0, 13, 0), -1); due(x.spread(0, 1, -1), -1); due(x.spread(0, 1, 3), -1); due(x.spread(0, 1, 0), -2); due(x.spread(11, 12, 2), -2);
    // without a line it stays: one number a step, from its step on
    x.slip(3, 4, 2, 6);
    due(x.spread(0, 2, 0), 0); due(x.spread(0, 2, 1), -4); due(x.spread(0, 2, 2), 1); due(x.spread(0, 3, 0), 1); due(x.spread(0, 3, 1), 3); due(x.spread(0, 3, 2), 0);
    due(x.spread(0, 12, 0), 10); due(x.spread(0, 12, 1), 12); due(x.spread(0, 12, 2), 0); due(x.spread(1, 12, 0), -2);
    // it heals where nothing leans on it any more; the last step is one up to n
    plan("a=b;b=c;c=d;d=d;");
    due(x.spread(0, 12, 0), 3); due(x.spread(0, 12, 1), 5); due(x.spread(0, 12, 2), 1); due(x.spread(0, 5, 2), 0); due(x.spread(0, 4, 1), 4); due(x.spread(0, 4, 0), 2); due(x.spread(0, 6, 2), 1);
    // to the four sides and itself
    plan("c=c+cn+ce+cs+cw;"); x.sky(6, 6); x.slip(1, 14, 2, 1);
    due(x.spread(0, 1, 0), 1); due(x.spread(0, 2, 0), 6); due(x.spread(0, 3, 0), 19);
    // all others stay: what two do together is not what each does
    fresh();
    plan("a=a/10;"); firsts(0, 0, 0, 0, 0, 0, 0, 0, 0, 0); x.slip(1, 0, 0, 5); x.slip(1, 0, 0, 5);
    due(x.spread(0, 2, 0), 2); due(x.spread(1, 2, 0), 2); due(x.spread(0, 3, 2), 1); x.mend(); due(x.spread(0, 2, 0), 1); due(x.spread(1, 2, 0), -2);
    // healed at once: step 1 is the last
    fresh();
    plan("a=b;"); x.slip(1, 0, 0, 5); due(x.spread(0, 12, 1), 1); due(x.spread(0, 12, 0), 1); due(x.spread(0, 1, 2), 0); due(x.spread(0, 2, 2), 1);
    // two that make up for one another; a number that is VOID either way is not otherwise
    fresh();
    plan("a=b-c;d=b.b;"); firsts(1, 1000000); firsts(2, 0); firsts(0, 0); x.slip(1, 0, 1, 5); x.slip(1, 0, 2, 5); x.slip(2, 0, 3, 1);
    due(x.spread(0, 2, 0), 3); due(x.spread(2, 12, 0), 0); due(x.spread(2, 12, 1), -4); due(x.spread(2, 2, 2), 1);
  }

  private static void kept() {
    fresh(17);
    for (int l = 0; l < 4; l++) due(x.kept(l), 1);
    due(x.kept(-1), -1); due(x.kept(4), -1);
    String[] kept = {"a=a;", "a=an;", "a=4a+an+ae+as+aw/8;", "a=a-an+as~;", "a=3a-as/2;"};
    String[] not = {"a=2a;", "a=a/2;", "a=a+b;", "a=b;", "a=a.a;", "a=-a;", "a=a-an;", "a=an+as-b/1;", "a=3a+as/2;"};
    for (String text : kept) { plan(text); due(x.kept(0), 1); due(x.kept(1), 1); }
    for (String text : not) { plan(text); due(x.kept(0), 0); due(x.kept(3), 1); }
    plan("b=b;a=b';"); due(x.kept(0), 0); due(x.kept(1), 1); plan("b=b;a=a+a-b'/1;"); due(x.kept(0), 0);
    // by edges: only round ones keep a sum; a letter without a line is kept by any
    plan("a=an;"); x.rule(0, 1); due(x.kept(0), 0); due(x.kept(1), 1); x.rule(0, 2); due(x.kept(0), 0); due(x.kept(1), 1); x.rule(0, 0); due(x.kept(0), 1);
  }

  private static void grows() {
    fresh(18);
    due(x.grows(), 1);
    String[] not = {"a=a;", "a=-a;", "a=b-c/2;", "a=2a-3b+4c/9;", "a=999a/1000;", "a=a;b=a';", "a=b+bn/2~;b=a;"};
    String[] grows = {"a=2a;", "a=a-b;", "a=a.b;", "a=a.b/1000;", "a=2a-3b+4c/8;", "a=a;b=a'+b;", "a=a;b=b;c=c;d=2d;", "a=b-b;"};
    for (String text : not) { plan(text); due(x.grows(), 1); }
    for (String text : grows) { plan(text); due(x.grows(), 0); }
    plan("a=a;"); x.rule(0, 2); due(x.grows(), 1);
  }

  private static void tell() {
    fresh(19);
    due(x.tell(-1, 0, false, 0, 0), -1); due(x.tell(13, 0, false, 0, 0), -1); due(x.tell(0, -1, false, 0, 0), -1); due(x.tell(0, 4, false, 0, 0), -1);
    due(x.tell(0, 0, false, -1, 0), -1); due(x.tell(0, 0, false, 3, 0), -1); due(x.tell(0, 0, true, -1, 0), -1); due(x.tell(0, 0, true, 3, 0), -1);
    due(x.tell(0, 0, false, 0, 1000000000001L), -1); due(x.tell(0, 0, false, 0, -1000000000001L), -1); due(x.tell(0, 0, false, 0, 1999999999999L), -1); due(x.tell(0, 0, false, 0, -2000000000000L), -1); due(x.tell(0, 0, true, 0, Long.MIN_VALUE), -1);
    due(x.count(6), 0);
    due(x.tell(0, 0, false, 0, 1000000000000L), 0); due(x.tell(12, 3, true, 2, -1000000000000L), 0); due(x.count(6), 1); due(x.tell(12, 3, false, 2, 0), 0); due(x.tell(12, 3, true, 2, 1), 0); due(x.count(6), 2);
    // nothing told; telling of others clears, BAD does not
    due(x.tell(12, 3, true, 2, UNTOLD), 0); due(x.count(6), 1); due(x.tell(12, 3, true, 2, UNTOLD), 0); due(x.count(6), 1);
    due(x.tell(11, 3, true, 3, 5), -1); due(x.count(6), 1); due(x.tell(11, 3, true, 1, 5), 0); due(x.count(6), 1); due(x.tell(11, 3, true, 0, 5), 0); due(x.count(6), 2); due(x.tell(11, 2, false, 1, 5), 0); due(x.count(6), 1);
    // rows by H, columns by W
    x.sky(5, 2); due(x.tell(0, 0, false, 2, 0), -1); due(x.tell(0, 0, true, 4, 0), 0); due(x.tell(0, 0, true, 5, 0), -1); due(x.tell(0, 0, false, 1, 0), 0); due(x.count(6), 2);
    x.sky(2, 5); due(x.count(6), 0); due(x.tell(0, 0, true, 2, 0), -1); due(x.tell(0, 0, false, 4, 0), 0);
  }

  private static void fails() {
    fresh(20);
    due(x.fails(), -2); x.sky(6, 6);
    for (int c = 0; c < 36; c++) x.first(c, 1, c);
    // row y: 36 y + 15; column x: 90 + 6 x
    for (int i = 0; i < 6; i++) { x.tell(2, 1, false, i, 36 * i + 15); x.tell(2, 1, true, i, 90 + 6 * i); }
    due(x.fails(), 0); x.slip(2, 35, 1, 1); due(x.fails(), 32 + 2048); x.slip(1, 6, 1, -9); due(x.fails(), 32 + 2048 + 2 + 64);
    x.tell(2, 1, false, 1, UNTOLD); due(x.fails(), 32 + 2048 + 64); x.tell(2, 1, true, 0, 81); due(x.fails(), 32 + 2048); x.mend(); due(x.fails(), 32 + 2048 + 64);
    for (int i = 0; i < 6; i++) { x.tell(2, 1, false, i, UNTOLD); x.tell(2, 1, true, i, UNTOLD); }
    due(x.fails(), -2); x.tell(0, 1, true, 3, 0); due(x.fails(), 512);
    // VOID counts 0
    fresh();
    plan("a=a.a;"); firsts(0, 2, 3, 1000000, 0, 0, 0, 0, 0, 0); x.tell(1, 0, false, 0, 13); x.tell(1, 0, true, 2, 0); due(x.fails(), 0); x.tell(1, 0, true, 2, 1); due(x.fails(), 256);
  }

  private static int fewest(long[] rows, long[] columns) {
    fresh();
    x.sky(columns.length, rows.length);
    for (int c = 0; c < rows.length * columns.length; c++) { x.first(c, 0, 0); }
    tellAll(0, 0, rows, columns);
    return x.least();
  }

  private static void least() {
    fresh(21);
    due(x.least(), -2);
    due(fewest(new long[] {0, 0, 0}, new long[] {0, 0, 0}), 0);
    x.tell(0, 0, false, 1, UNTOLD); due(x.least(), -2); x.tell(0, 0, false, 1, 1); due(x.least(), -2); x.tell(0, 0, true, 1, 1); due(x.least(), 1);
    due(fewest(new long[] {5, 0}, new long[] {0, 5}), 1); due(fewest(new long[] {5, 3}, new long[] {3, 5}), 2); due(fewest(new long[] {5, 3}, new long[] {4, 4}), 3); due(fewest(new long[] {8, 0}, new long[] {4, 4}), 2);
    // rows alone: they need a column that lacks nothing, and each a cell
    due(fewest(new long[] {5, -5}, new long[] {0, 0}), 2); due(fewest(new long[] {0, 0}, new long[] {7, -7}), 2); due(fewest(new long[] {5, -5, 3, -3}, new long[] {0, 0}), 4);
    // rows that make up for one another join a part that has both
    due(fewest(new long[] {5, -5, 3}, new long[] {3, 0, 0}), 3); due(fewest(new long[] {5, -5, 3}, new long[] {2, 1, 0}), 4);
    due(fewest(new long[] {1, 2, 3, 4}, new long[] {5, 5}), 4); due(fewest(new long[] {1, 2, 3, 5}, new long[] {4, 7}), 4); due(fewest(new long[] {1, 1, 1, 5}, new long[] {4, 4}), 5); due(fewest(new long[] {1, 2, 4, 5}, new long[] {6, 6}), 4);
    // as many parts as can be: six of two, three of four, one of twelve
    due(fewest(new long[] {1, 2, 3, 4, 5, 6}, new long[] {6, 5, 4, 3, 2, 1}), 6); due(fewest(new long[] {1, 2, 10, 20, 100, 200}, new long[] {3, 30, 300, 0, 0, 0}), 6);
    due(fewest(new long[] {1, 4, 10, 40, 100, 400}, new long[] {2, 3, 20, 30, 200, 300}), 9); due(fewest(new long[] {1, 10, 100, 1000, 10000, 100000}, new long[] {2, 20, 200, 2000, 20000, 88889}), 11);
    due(fewest(new long[] {7, 7, 7, 7, 7, 7}, new long[] {7, 7, 7, 7, 7, 7}), 6); due(fewest(new long[] {7, 7, 7, 7, 7, 7}, new long[] {42, 0, 0, 0, 0, 0}), 6); due(fewest(new long[] {-3, 3, -3, 3, -3, 3}, new long[] {0, 0, 0, 0, 0, 0}), 6);
    due(fewest(new long[] {1000000000000L, -1000000000000L}, new long[] {-1000000000000L, 1000000000000L}), 2);
    // against the hall's sums of the told step, VOID 0
    fresh();
    x.sky(2, 2); firsts(0, 1, 2, 3, 4); x.slip(3, 0, 0, 10); tellAll(4, 0, new long[] {3, 7}, new long[] {4, 6}); due(x.least(), 1); x.mend(); due(x.least(), 0);
    plan("a=a.a;"); due(x.fails(), 195); firsts(0, 1000000, 0, 0, 0); due(x.least(), 3);
  }

  private static void second() {
    fresh(22);
    due(x.second(0, 0), -1); due(x.second(13, 0), -1); due(x.second(1, -1), -1); due(x.second(1, 9), -1); due(x.second(12, 8), 0);
    // a slip is seen where it was made, with a line or without, not where it spread
    plan("a=a;b=a'+b;"); x.slip(2, 3, 0, 5); x.slip(2, 3, 3, 5); x.slip(2, 3, 2, 4); x.slip(2, 3, 2, -4);
    due(x.second(2, 3), 9); due(x.second(3, 3), 0); due(x.second(1, 3), 0); due(x.second(2, 4), 0); x.slip(2, 3, 1, 1); due(x.second(2, 3), 11);
    // VOID made anew is VOID: a slip on it is not seen
    plan("a=b.b;"); firsts(1, 1000000, 2); x.slip(1, 0, 0, 9); due(x.second(1, 0), 0); x.slip(1, 1, 0, 9); due(x.second(1, 1), 1);
    // a number that a slip made VOID is seen
    plan("a=b.c;"); x.first(2, 1, 1000000); x.first(2, 2, 1000); x.slip(1, 2, 0, 1); due(x.second(1, 2), 1);
  }

  private static void put() {
    fresh(23);
    due(x.put(-1, 0), -2000000000); due(x.put(9, 0), -2000000000); due(x.put(0, 1000000001), -2000000000); due(x.put(0, -1000000001), -2000000000); due(x.put(0, VOID), -2000000000);
    due(x.put(0, 1000000000), 0); due(x.put(0, -1000000000), 1000000000); due(x.put(0, 4), -1000000000); due(x.put(8, 5), 0); due(x.put(8, 0), 5); due(x.put(0, 4), 4);
    x.sky(6, 6); due(x.put(35, 1), 0); due(x.put(36, 1), -2000000000); due(x.put(35, 1), 1);
  }

  private static void judge() {
    fresh(24);
    due(x.judge(0, 0), -1); due(x.judge(13, 0), -1); due(x.judge(1, -1), -1); due(x.judge(1, 4), -1); due(x.judge(1, 0), -4); due(x.judge(12, 3), -4);
    // by the line from what the hall has ahead: the slip of this step is wrong, that of an earlier one is not
    plan("a=a+b;c=a'+1b;"); for (int c = 0; c < 9; c++) { x.first(c, 0, c); x.first(c, 1, 1); x.first(c, 2, 0); x.put(c, c + 1); }
    due(x.judge(1, 0), -4); due(x.judge(2, 0), 0); x.slip(1, 6, 0, 10); due(x.judge(1, 0), -4); x.put(6, 17); due(x.judge(1, 0), 6);
    for (int c = 0; c < 9; c++) x.put(c, c + 2 + (c == 6 ? 10 : 0));
    due(x.judge(2, 0), -4); due(x.judge(1, 2), -4); x.put(8, 0); due(x.judge(1, 2), 8); x.put(3, 0); due(x.judge(1, 2), 3);
    // a letter without a line is what it was at the step ahead
    for (int c = 0; c < 9; c++) x.put(c, 1);
    due(x.judge(5, 1), -4); x.slip(4, 2, 1, 1); due(x.judge(4, 1), -4); due(x.judge(5, 1), 2);
    // VOID is no number that can be put
    plan("a=d.d;"); for (int c = 0; c < 9; c++) { x.first(c, 3, c == 4 ? 1000000 : 0); x.put(c, 0); }
    due(x.judge(1, 0), 4);
  }

  private static void pace() {
    fresh(25);
    due(x.pace(0, 1), 5); due(x.pace(0, 20), 1); due(x.pace(5, 9), 5); due(x.pace(5, 9), 9);
    due(x.pace(-1, 5), -1); due(x.pace(6, 5), -1); due(x.pace(0, 0), -1); due(x.pace(0, 21), -1); due(x.pace(0, 20), 20);
    due(x.when(1, 0), 20); x.pace(0, 2); due(x.when(1, 0), 2); due(x.when(1, -1), 18);
  }

  private static void give() {
    fresh(26);
    due(x.give(0, 5), 0); due(x.give(0, 2), 5); due(x.give(8, 1), 0); due(x.give(0, 0), 2);
    due(x.give(-1, 0), -1); due(x.give(9, 0), -1); due(x.give(0, -1), -1); due(x.give(0, 6), -1); due(x.give(8, 1), 1);
    due(x.when(1, -1), 40); x.give(7, 1); due(x.when(1, -1), 35);
  }

  private static void when() {
    fresh(27);
    due(x.when(-1, 0), -1); due(x.when(13, 0), -1); due(x.when(0, -2), -1); due(x.when(0, 9), -1); due(x.when(0, 0), 0); due(x.when(0, -1), 0);
    // one person: cell by cell, step by step
    for (int c = 0; c < 9; c++) { due(x.when(1, c), 5 * (c + 1)); due(x.when(12, c), 5 * (99 + c + 1)); }
    due(x.when(12, -1), 540);
    // two by two, four people: each waits for the slower neighbours and for the walk of their notes
    x.sky(2, 2); x.pace(1, 7); x.pace(2, 1); x.pace(3, 2); x.rule(1, 3); x.give(1, 1); x.give(2, 2); x.give(3, 3);
    int[][] want = {{5, 7, 1, 2}, {15, 15, 9, 12}, {23, 25, 19, 20}};
    for (int s = 1; s <= 3; s++) for (int c = 0; c < 4; c++) due(x.when(s, c), want[s - 1][c]);
    due(x.when(3, -1), 25); x.rule(1, 0); due(x.when(2, 0), 12); due(x.when(2, 2), 6);
    // notes come from each of the four sides
    int[] sides = {1, 3, 5, 7};
    for (int side : sides) {
      fresh();
      x.rule(0, 2); x.pace(0, 1); x.pace(1, 20); x.pace(2, 1); x.give(side, 1); x.give(4, 2);
      due(x.when(1, side), 20); due(x.when(1, 4), 1); due(x.when(2, 4), 22);
    }
    // beyond an edge of 1 is the cell itself, of 2 nobody: in a row of six the ends do not wait for one another
    fresh();
    x.sky(6, 2); x.give(0, 1); x.give(5, 2); x.pace(2, 20); x.pace(1, 1);
    for (int c = 6; c < 12; c++) x.give(c, 3);
    x.pace(3, 1); x.pace(0, 1);
    due(x.when(2, 0), 22); x.rule(0, 1); due(x.when(2, 0), 3); x.rule(0, 2); due(x.when(2, 0), 3); x.rule(0, 0); due(x.when(2, 0), 22); due(x.when(1, -1), 20); due(x.when(2, -1), 40);
    // in a step a person does cells by numbers, even where the first of them waits
    fresh();
    x.sky(3, 2); x.pace(1, 20); x.give(1, 1); x.pace(0, 1); due(x.when(1, 0), 1); due(x.when(1, 5), 5); due(x.when(2, 0), 22); due(x.when(2, 2), 23); due(x.when(2, 3), 24);
  }

  private static void slowest() {
    fresh(28);
    due(x.slowest(0), -1); due(x.slowest(13), -1); due(x.slowest(1), 8); due(x.slowest(12), 8);
    // the lowest of several
    x.sky(2, 2); for (int c = 0; c < 4; c++) x.give(c, c);
    due(x.slowest(1), 0); x.pace(0, 4); due(x.slowest(1), 1); x.pace(2, 6); due(x.slowest(1), 2); due(x.slowest(2), 2); x.pace(3, 7); due(x.slowest(1), 3); due(x.slowest(2), 2); x.pace(0, 20); due(x.slowest(2), 0);
  }

  private static void given() {
    fresh(29);
    due(x.given(0, 1, 0), -1); due(x.given(4, 1, 0), -1); due(x.given(1, -1, 0), -1); due(x.given(1, 13, 0), -1); due(x.given(1, 1, -2), -1); due(x.given(1, 1, 9), -1);
    due(x.given(1, 1, -1), 45); due(x.given(1, 12, -1), 540); due(x.given(1, 12, 8), 0);
    // step 1 waits for nobody: 5 and 4 cells; the lower people first
    due(x.given(2, 1, -1), 25); int[] five = {0, 0, 0, 0, 0, 1, 1, 1, 1};
    for (int c = 0; c < 9; c++) due(x.given(2, 1, c), five[c]);
    x.pace(1, 1); due(x.given(2, 1, -1), 8); int[] quick = {0, 1, 1, 1, 1, 1, 1, 1, 1};
    for (int c = 0; c < 9; c++) due(x.given(2, 1, c), quick[c]);
    due(x.given(2, 0, -1), 0); due(x.given(2, 0, 4), 0);
    // whose the cells are now does not count and does not change; paces do, of those who share alone
    x.give(0, 5); x.pace(5, 1); due(x.given(2, 1, -1), 8); due(x.give(0, 5), 5); x.pace(1, 5); due(x.given(3, 1, -1), 15); x.pace(2, 20); due(x.given(3, 1, -1), 20); due(x.given(3, 1, 8), 2); due(x.given(3, 1, 7), 1);
    // cell 0 too goes to the quicker one
    fresh();
    x.sky(2, 2); x.pace(0, 20); x.pace(1, 1); due(x.given(2, 3, -1), 12); for (int c = 0; c < 4; c++) due(x.given(2, 3, c), 1);
    // a long walk: better all by one
    fresh();
    x.sky(2, 2); x.pace(0, 1); x.pace(1, 1); x.rule(1, 9); due(x.given(2, 1, -1), 2); due(x.given(2, 2, -1), 8); due(x.given(2, 2, 3), 0); x.rule(1, 0); due(x.given(2, 2, -1), 4);
    // more than nine cells
    x.sky(2, 5); due(x.given(1, 1, -1), -2); due(x.given(1, 1, 10), -1); due(x.given(4, 1, 0), -1); x.sky(3, 3); due(x.given(1, 1, -1), 9); x.sky(2, 4); due(x.given(1, 1, -1), 8);
  }

  private static void known() {
    fresh(30);
    due(x.known(-1, 0), -1); due(x.known(9, 0), -1); due(x.known(0, -1), -1); due(x.known(0, 100001), -1);
    due(x.known(0, 0), 0); due(x.known(0, 4), 0); due(x.known(0, 5), 1); due(x.known(0, 49), 1); due(x.known(0, 50), 2); due(x.known(8, 539), 11); due(x.known(8, 540), 12); due(x.known(8, 100000), 12); due(x.known(8, 44), 0);
    x.pace(0, 1); due(x.known(8, 9), 1); x.give(8, 1); due(x.known(8, 4), 0); due(x.known(8, 5), 1);
  }

  private static void coarse() {
    fresh(31);
    due(x.coarse(1, 0, 0), -2); due(x.coarse(0, 0, 0), -1); due(x.coarse(13, 0, 0), -1); due(x.coarse(1, -1, 0), -1); due(x.coarse(1, 4, 0), -1); due(x.coarse(1, 0, -1), -1); due(x.coarse(1, 0, 1000001), -1); due(x.coarse(12, 3, 1000000), -2);
    x.sky(4, 3); due(x.coarse(1, 0, 0), -2); x.sky(3, 4); due(x.coarse(1, 0, 0), -2); x.sky(2, 2); due(x.coarse(1, 0, 0), 0); x.sky(6, 6); due(x.coarse(12, 3, 0), 0);
    // 4 by 2, two cells of four: means 2 (of 10) and 25; moved west by one small cell they change places, by the small sky
    x.sky(4, 2); firsts(0, 1, 2, 10, 20, 3, 4, 30, 40);
    due(x.coarse(1, 0, 0), 0); plan("a=ae;");
    // step 1: the right ones are 2 10 20 1 / 4 30 40 3, means 11 and 16; the small ones 25 and 2
    due(x.coarse(1, 0, 14), 0); due(x.coarse(1, 0, 13), 2); due(x.coarse(1, 0, 0), 2);
    // edge 1: 2 10 20 20 / 4 30 40 40: 11 and 30; small 25 and 25
    x.rule(0, 1); due(x.coarse(1, 0, 14), 0); due(x.coarse(1, 0, 13), 1); due(x.coarse(1, 0, 5), 1); due(x.coarse(1, 0, 4), 2);
    // edge 2, rim -9: 2 10 20 -9 / 4 30 40 -9: 11 and 10 (42 / 4); small 25 and -9
    x.rule(0, 2); x.rim(0, -9); due(x.coarse(1, 0, 18), 1); due(x.coarse(1, 0, 19), 0); due(x.coarse(1, 0, 14), 1); due(x.coarse(1, 0, 13), 2);
    // slips do not count; gaps are filled first; means of minus ones are rounded down
    x.slip(1, 0, 0, 1000000); due(x.coarse(1, 0, 19), 0);
    fresh();
    x.sky(2, 2); x.first(0, 0, -1); x.first(1, 0, -2); x.first(2, 0, -2); plan("b=a;a=a;");
    x.slip(1, 0, 0, 9); x.slip(1, 0, 1, 9); due(x.at(true, 0, 3, 0), -2); due(x.coarse(1, 1, 0), 0); x.first(3, 1, 0); plan("a=-a;"); due(x.coarse(1, 0, 0), 1); due(x.coarse(1, 0, 1), 0);
    // VOID on one side or on both is off
    fresh();
    x.sky(4, 2); plan("a=a.a;"); firsts(0, 40000, 0, 1, 1, 0, 0, 1, 1); due(x.coarse(1, 0, 1000000), 1); firsts(0, 40000, 40000, 1, 1, 40000, 40000, 1, 1); due(x.coarse(1, 0, 1000000), 1); due(x.coarse(12, 0, 0), 1);
    firsts(0, 1, 1, 1, 1, 1, 1, 1, 1); due(x.coarse(12, 0, 0), 0);
    // the small one alone is VOID: each of the four is right
    plan("a=a.b;"); firsts(0, 1000000, 0, 0, 0, 1000000, 0, 0, 0); firsts(1, 0, 1000000, 0, 0, 0, 1000000, 0, 0); due(x.at(true, 1, 0, 0), 0); due(x.coarse(1, 0, 1000000), 1); due(x.coarse(1, 1, 0), 0);
  }

  private static void keep() {
    fresh(32);
    due(x.keep(), 1); due(x.keep(), 2); due(x.keep(), -3); due(x.count(5), 2); due(x.back(), 1); due(x.keep(), 2); due(x.keep(), -3);
    // what is kept does not change with what comes later
    fresh();
    plan("a=a+b;"); x.first(0, 0, 1); x.first(0, 1, 2); x.slip(1, 0, 0, 100); x.keep(); plan("a=b;"); x.first(0, 0, 50); x.mend(); x.slip(2, 0, 0, 7); due(x.at(false, 2, 0, 0), 9); x.back(); due(x.at(false, 2, 0, 0), 105); due(x.at(false, 1, 0, 0), 103);
    // a slip comes back with its step, cell, letter and amount
    fresh();
    x.slip(2, 1, 3, 10); x.slip(4, 5, 1, 20); x.keep(); x.mend(); x.mend(); x.slip(1, 2, 0, 30); x.slip(3, 6, 2, 40); x.slip(1, 1, 1, 1); x.back();
    due(x.count(4), 2); due(x.at(false, 1, 1, 3), 0); due(x.at(false, 2, 1, 3), 10); due(x.at(false, 3, 5, 1), 0); due(x.at(false, 4, 5, 1), 20);
    for (int l = 0; l < 4; l++) due(x.sum(false, 12, l), new int[] {0, 20, 0, 10}[l]);
  }

  private static void back() {
    fresh(33);
    due(x.back(), -2);
    plan("a=an;"); x.first(0, 0, 4); x.slip(1, 1, 1, 5); x.rule(0, 2); x.rim(0, 6); due(x.keep(), 1);
    plan("b=b;a=b'.b';"); x.first(0, 0, GAP); x.first(5, 2, 1); x.mend(); x.rule(0, 1); x.rim(0, 8); x.rim(3, 9); due(x.keep(), 2);
    plan(""); x.rule(0, 0); x.first(5, 2, GAP);
    due(x.back(), 1); due(x.count(2), 2); due(x.line(0, 0), 1); due(x.line(0, 4), 1); due(x.first(5, 2, 1), 1); due(x.first(0, 0, GAP), GAP); due(x.count(4), 0); due(x.rule(0, 1), 1); due(x.rim(0, 8), 8); due(x.rim(3, 9), 9);
    due(x.back(), 0); due(x.count(2), 1); due(x.line(0, 0), 0); due(x.line(1, 0), -4); due(x.first(0, 0, 4), 4); due(x.first(5, 2, GAP), GAP); due(x.count(4), 1); due(x.rule(0, 2), 2); due(x.rim(0, 6), 6); due(x.rim(3, 0), 0);
    due(x.at(false, 1, 1, 1), 5); due(x.at(true, 1, 0, 0), 6); due(x.back(), -2); due(x.count(3), 35);
    // not of it: text, walk, paces, whose cells are, told sums, the judged row
    fresh();
    x.keep(); write("a=b;"); x.rule(1, 7); x.pace(0, 8); x.give(2, 3); x.tell(0, 0, true, 1, 5); x.put(1, 4); due(x.back(), 0);
    due(x.count(1), 4); due(x.rule(1, 1), 7); due(x.pace(0, 5), 8); due(x.give(2, 0), 3); due(x.count(6), 1); due(x.put(1, 0), 4);
    // the edge that is back counts for people too
    fresh();
    x.sky(6, 2); x.pace(5, 20); x.give(5, 5); x.give(0, 1); x.pace(0, 1); due(x.when(2, 0), 26); x.keep(); x.rule(0, 1); due(x.when(2, 0), 11); x.back(); due(x.when(2, 0), 26);
  }

  private static void count() {
    fresh(34);
    due(x.count(-1), -1); due(x.count(7), -1); due(x.count(Integer.MAX_VALUE), -1);
    x.sky(4, 5); plan("a=b;c=d;"); write("xyz"); x.first(0, 0, 0); x.first(19, 3, 1); x.slip(1, 0, 0, 1); x.slip(1, 0, 0, 1); x.slip(1, 0, 0, 1); x.keep(); x.tell(1, 1, false, 4, 0); x.tell(1, 1, true, 3, 0); x.tell(1, 1, true, 0, 0);
    int[] want = {20, 11, 2, 78, 3, 1, 3};
    for (int what = 0; what < 7; what++) due(x.count(what), want[what]);
    x.first(0, 0, GAP); due(x.count(3), 79);
  }
}
