import java.math.BigInteger;
import java.util.ArrayList;
import java.util.Arrays;
import java.util.HashMap;
import java.util.List;
import java.util.Map;

/**
 * The document once more, said as slowly and plainly as can be: each answer is reckoned from
 * scratch, numbers by recursion and with BigInteger, searches by trying all. It shares no code and
 * no way of working with the program that it judges.
 */
final class Oracle {
  static final int BAD = -1, NO = -2, FULL = -3, NONE = -4, VOID = 2000000000, GAP = 2000000;
  static final long UNTOLD = 2000000000000L;

  record Name(int letter, char side, boolean now) {}
  record Term(int factor, Name one, Name two) {}
  record Line(int letter, List<Term> terms, int divisor, boolean nearest) {}
  record Slip(int step, int cell, int letter, int amount) {}
  record Kept(List<Line> plan, Map<Integer, Integer> firsts, List<Slip> slips, int edge, int[] rim) {}

  int w = 3, h = 3, edge = 0, walk = 1;
  int[] rim = new int[4];
  String text = "";
  List<Line> plan = new ArrayList<>();
  Map<Integer, Integer> firsts = new HashMap<>();
  List<Slip> slips = new ArrayList<>();
  int[] judged = new int[36], pace = {5, 5, 5, 5, 5, 5}, owner = new int[36];
  Map<String, Long> told = new HashMap<>();
  int toldStep = 0, toldLetter = 0;
  List<Kept> kept = new ArrayList<>();

  // ---- asked of a sky of any size

  /** Numbers of a sky by recursion: first numbers are handed in, slips too. */
  static final class Sky {
    final int w, h, edge; final int[] rim; final List<Line> plan; final List<Slip> slips; final int[][] first;
    final Map<Integer, Integer> memo = new HashMap<>();
    Sky(int w, int h, int edge, int[] rim, List<Line> plan, List<Slip> slips, int[][] first) {
      this.w = w; this.h = h; this.edge = edge; this.rim = rim; this.plan = plan; this.slips = slips; this.first = first;
    }
    int at(int step, int cell, int letter) {
      int key = (step * 36 + cell) * 4 + letter;
      Integer known = memo.get(key);
      if (known != null) return known;
      int v = step == 0 ? first[cell][letter] : made(step, cell, letter);
      if (step > 0) for (Slip s : slips) {
        if (s.step == step && s.cell == cell && s.letter == letter && v != VOID) {
          v += s.amount;
          if (Math.abs(v) > 1000000000) v = VOID;
        }
      }
      memo.put(key, v);
      return v;
    }
    int made(int step, int cell, int letter) {
      Line line = null;
      for (Line l : plan) if (l.letter == letter) line = l;
      if (line == null) return at(step - 1, cell, letter);
      BigInteger huge = BigInteger.valueOf(1000000000000000L), sum = BigInteger.ZERO;
      boolean gone = false;
      for (Term t : line.terms) {
        int one = named(t.one, step, cell), two = t.two == null ? 1 : named(t.two, step, cell);
        if (one == VOID || two == VOID) { gone = true; continue; }
        BigInteger v = BigInteger.valueOf(one).multiply(BigInteger.valueOf(two)).multiply(BigInteger.valueOf(t.factor));
        if (v.abs().compareTo(huge) > 0) gone = true;
        sum = sum.add(v);
      }
      if (gone || sum.abs().compareTo(huge) > 0) return VOID;
      // nearest with half up: the greatest k with k - 1/2 <= sum / divisor
      BigInteger top = line.nearest ? sum.shiftLeft(1).add(BigInteger.valueOf(line.divisor)) : sum;
      BigInteger by = BigInteger.valueOf(line.nearest ? 2L * line.divisor : line.divisor);
      BigInteger[] qr = top.divideAndRemainder(by);
      BigInteger q = qr[1].signum() < 0 ? qr[0].subtract(BigInteger.ONE) : qr[0];
      return q.abs().compareTo(BigInteger.valueOf(1000000000)) > 0 ? VOID : q.intValue();
    }
    int named(Name n, int step, int cell) {
      int near = near(w, h, edge, cell, n.side);
      if (near < 0) return rim[n.letter];
      return at(n.now ? step : step - 1, near, n.letter);
    }
    long sum(int step, int letter, int row, int column) {
      long s = 0;
      for (int c = 0; c < w * h; c++) {
        if ((row < 0 || c / w == row) && (column < 0 || c % w == column) && at(step, c, letter) != VOID) s += at(step, c, letter);
      }
      return s;
    }
  }

  static int near(int w, int h, int edge, int cell, char side) {
    int x = cell % w, y = cell / w;
    if (side == 'n') y--;
    if (side == 's') y++;
    if (side == 'e') x++;
    if (side == 'w') x--;
    if (x < 0 || y < 0 || x >= w || y >= h) {
      if (edge == 1) return cell;
      if (edge == 2) return -1;
    }
    return (y + h) % h * w + (x + w) % w;
  }

  int filled(int cell, int letter) {
    List<Integer> around = new ArrayList<>();
    for (char side : "nesw".toCharArray()) {
      int near = near(w, h, edge, cell, side);
      if (near < 0) around.add(rim[letter]);
      else if (firsts.containsKey(near * 4 + letter)) around.add(firsts.get(near * 4 + letter));
    }
    if (around.isEmpty()) return 0;
    double sum = 0;
    for (int v : around) sum += v;
    return (int) Math.floor(sum / around.size());
  }

  int[][] firstNumbers() {
    int[][] first = new int[w * h][4];
    for (int c = 0; c < w * h; c++) for (int l = 0; l < 4; l++) first[c][l] = firsts.containsKey(c * 4 + l) ? firsts.get(c * 4 + l) : filled(c, l);
    return first;
  }

  // a sky is made anew for each state, not for each call: else long runs would take minutes
  private Sky hallNow, rightNow;
  private void touched() { hallNow = null; rightNow = null; }
  Sky hall(boolean right) {
    if (right) return rightNow != null ? rightNow : (rightNow = new Sky(w, h, edge, rim.clone(), plan, new ArrayList<>(), firstNumbers()));
    return hallNow != null ? hallNow : (hallNow = new Sky(w, h, edge, rim.clone(), plan, new ArrayList<>(slips), firstNumbers()));
  }

  boolean cell(int c) { return 0 <= c && c < w * h; }
  static boolean in(long v, long low, long high) { return low <= v && v <= high; }

  // ---- the calls

  int sky(int nw, int nh) {
    if (!in(nw, 2, 6) || !in(nh, 2, 6)) return BAD;
    w = nw; h = nh; firsts.clear(); slips.clear(); told.clear(); kept.clear(); owner = new int[36];
    touched();
    return w * h;
  }
  int rule(int what, int v) {
    if (!in(what, 0, 1) || !in(v, 0, what == 0 ? 2 : 9)) return BAD;
    touched();
    int was = what == 0 ? edge : walk;
    if (what == 0) edge = v; else walk = v;
    return was;
  }
  int rim(int letter, int v) {
    if (!in(letter, 0, 3) || !in(v, -1000000, 1000000)) return -2000000;
    touched();
    int was = rim[letter]; rim[letter] = v; return was;
  }
  int write(int n, long v) {
    if (!in(n, 1, 8)) return BAD;
    if (text.length() + n > 160) return FULL;
    StringBuilder more = new StringBuilder();
    for (int i = 0; i < n; i++) { more.insert(0, (char) (v & 255)); v >>= 8; }
    text += more;
    return text.length();
  }
  int wipe() { int was = text.length(); text = ""; return was; }

  /** Read sign by sign: what is open is a state, and each state tells what may come. */
  private List<Line> read;
  int fault() {
    read = new ArrayList<>();
    int i = 0, n = text.length();
    while (i < n) {
      int letter = "abcd".indexOf(text.charAt(i));
      if (letter < 0 || has(letter)) return i;
      if (i + 1 >= n || text.charAt(i + 1) != '=') return i + 1;
      i += 2;
      List<Term> terms = new ArrayList<>();
      int divisor = 1; boolean nearest = false;
      while (true) {
        boolean minus = false;
        if (i < n && (text.charAt(i) == '+' || text.charAt(i) == '-')) { minus = text.charAt(i) == '-'; i++; }
        String figures = figures(i);
        int factor = 1;
        if (!figures.isEmpty()) {
          if (!fits(figures, 999)) return i;
          factor = Integer.parseInt(figures); i += figures.length();
        }
        int[] next = new int[1];
        Name[] names = new Name[2];
        for (int k = 0; k < 2; k++) {
          Name name = name(i, next);
          if (name == null) return next[0];
          names[k] = name; i = next[0];
          if (k == 0 && i < n && text.charAt(i) == '.') i++; else break;
        }
        terms.add(new Term(minus ? -factor : factor, names[0], names[1]));
        if (i >= n || "+-".indexOf(text.charAt(i)) < 0) break;
      }
      if (i < n && text.charAt(i) == '/') {
        String figures = figures(++i);
        if (!fits(figures, 1000)) return i;
        divisor = Integer.parseInt(figures); i += figures.length();
      }
      if (i < n && text.charAt(i) == '~') { nearest = true; i++; }
      if (i >= n || text.charAt(i) != ';') return i;
      i++;
      read.add(new Line(letter, terms, divisor, nearest));
    }
    return NONE;
  }
  private boolean has(int letter) { for (Line l : read) if (l.letter == letter) return true; return false; }
  private String figures(int i) { int j = i; while (j < text.length() && Character.isDigit(text.charAt(j)) && text.charAt(j) < 128) j++; return text.substring(Math.min(i, text.length()), j); }
  private boolean fits(String figures, int most) {
    if (figures.isEmpty() || figures.charAt(0) == '0') return false;
    return new BigInteger(figures).compareTo(BigInteger.valueOf(most)) <= 0;
  }
  private Name name(int i, int[] next) {
    next[0] = i;
    if (i >= text.length()) return null;
    int letter = "abcd".indexOf(text.charAt(i));
    if (letter < 0) return null;
    int j = i + 1;
    char side = '.';
    if (j < text.length() && "nesw".indexOf(text.charAt(j)) >= 0) side = text.charAt(j++);
    boolean now = j < text.length() && text.charAt(j) == '\'';
    if (now && (side != '.' || !has(letter))) return null;
    next[0] = now ? j + 1 : j;
    return new Name(letter, side, now);
  }

  int plan() { if (fault() != NONE) return NO; touched(); plan = read; return plan.size(); }
  int line(int letter, int what) {
    if (!in(letter, 0, 3) || !in(what, 0, 4)) return BAD;
    for (int i = 0; i < plan.size(); i++) {
      Line l = plan.get(i);
      if (l.letter != letter) continue;
      return what == 0 ? i : what == 1 ? l.terms.size() : what == 2 ? l.divisor : what == 3 ? (l.nearest ? 1 : 0) : product(l) ? 1 : 0;
    }
    return NONE;
  }
  private static boolean product(Line l) { for (Term t : l.terms) if (t.two != null) return true; return false; }

  int first(int cell, int letter, int v) {
    if (!cell(cell) || !in(letter, 0, 3) || (v != GAP && !in(v, -1000000, 1000000))) return -2000000;
    touched();
    Integer was = v == GAP ? firsts.remove(cell * 4 + letter) : firsts.put(cell * 4 + letter, v);
    return was == null ? GAP : was;
  }
  int at(boolean right, int step, int cell, int letter) {
    if (!in(step, 0, 12) || !cell(cell) || !in(letter, 0, 3)) return -2000000000;
    return hall(right).at(step, cell, letter);
  }
  int marked(int step, int cell, int letter) {
    if (!in(step, 0, 12) || !cell(cell) || !in(letter, 0, 3)) return BAD;
    return isMarked(step, cell, letter, new HashMap<>()) ? 1 : 0;
  }
  private boolean isMarked(int step, int cell, int letter, Map<Integer, Boolean> memo) {
    if (step == 0) return !firsts.containsKey(cell * 4 + letter);
    int key = (step * 36 + cell) * 4 + letter;
    if (memo.containsKey(key)) return memo.get(key);
    boolean m = false;
    Line line = null;
    for (Line l : plan) if (l.letter == letter) line = l;
    if (line == null) m = isMarked(step - 1, cell, letter, memo);
    else for (Term t : line.terms) for (Name n : t.two == null ? new Name[] {t.one} : new Name[] {t.one, t.two}) {
      int near = near(w, h, edge, cell, n.side);
      if (near >= 0 && isMarked(n.now ? step : step - 1, near, n.letter, memo)) m = true;
    }
    memo.put(key, m);
    return m;
  }
  long sum(boolean right, int step, int letter) {
    if (!in(step, 0, 12) || !in(letter, 0, 3)) return -2000000000000L;
    return hall(right).sum(step, letter, -1, -1);
  }
  int slip(int step, int cell, int letter, int amount) {
    if (!in(step, 1, 12) || !cell(cell) || !in(letter, 0, 3) || !in(amount, -1000000, 1000000) || amount == 0) return BAD;
    if (slips.size() == 12) return FULL;
    touched();
    slips.add(new Slip(step, cell, letter, amount));
    return slips.size();
  }
  int mend() { if (slips.isEmpty()) return NO; touched(); slips.remove(slips.size() - 1); return slips.size(); }
  int spread(int i, int n, int what) {
    if (i < 0 || !in(n, 1, 12) || !in(what, 0, 2)) return BAD;
    if (i >= slips.size()) return NO;
    List<Slip> others = new ArrayList<>(slips);
    others.remove(i);
    Sky hall = hall(false), other = new Sky(w, h, edge, rim, plan, others, firstNumbers());
    int many = 0, last = NONE, heals = 1;
    for (int s = 0; s <= n; s++) for (int c = 0; c < w * h; c++) for (int l = 0; l < 4; l++) {
      if (hall.at(s, c, l) != other.at(s, c, l)) { many++; last = s; if (s == n) heals = 0; }
    }
    return what == 0 ? many : what == 1 ? last : heals;
  }
  int kept(int letter) {
    if (!in(letter, 0, 3)) return BAD;
    for (Line l : plan) if (l.letter == letter) {
      int sum = 0; boolean own = edge == 0 && !product(l);
      for (Term t : l.terms) { sum += t.factor; own &= t.one.letter == letter && !t.one.now; }
      return own && sum == l.divisor ? 1 : 0;
    }
    return 1;
  }
  int grows() {
    for (Line l : plan) {
      int sum = 0;
      for (Term t : l.terms) sum += Math.abs(t.factor);
      if (product(l) || sum > l.divisor) return 0;
    }
    return 1;
  }
  int tell(int step, int letter, boolean column, int i, long v) {
    if (!in(step, 0, 12) || !in(letter, 0, 3) || !in(i, 0, (column ? w : h) - 1)) return BAD;
    if (v != UNTOLD && !in(v, -1000000000000L, 1000000000000L)) return BAD;
    if (step != toldStep || letter != toldLetter) told.clear();
    toldStep = step; toldLetter = letter;
    if (v == UNTOLD) told.remove((column ? "c" : "r") + i); else told.put((column ? "c" : "r") + i, v);
    return 0;
  }
  private long isNow(boolean column, int i) { return hall(false).sum(toldStep, toldLetter, column ? -1 : i, column ? i : -1); }
  int fails() {
    if (told.isEmpty()) return NO;
    int bits = 0;
    for (int y = 0; y < h; y++) if (told.containsKey("r" + y) && told.get("r" + y) != isNow(false, y)) bits += 1 << y;
    for (int x = 0; x < w; x++) if (told.containsKey("c" + x) && told.get("c" + x) != isNow(true, x)) bits += 64 << x;
    return bits;
  }
  int least() {
    if (told.size() != w + h) return NO;
    long[] lack = new long[w + h];
    long rows = 0, columns = 0;
    for (int y = 0; y < h; y++) { lack[y] = told.get("r" + y) - isNow(false, y); rows += told.get("r" + y); }
    for (int x = 0; x < w; x++) { lack[h + x] = -(told.get("c" + x) - isNow(true, x)); columns += told.get("c" + x); }
    if (rows != columns) return NO;
    return w * h <= 12 ? leastByCells(lack) : leastByGroups(lack, 0, new ArrayList<>());
  }
  /** All sets of cells: one is enough if all rows and columns that it ties together lack nothing together. */
  private int leastByCells(long[] lack) {
    int best = w * h + 1;
    for (int set = 0; set < 1 << (w * h); set++) {
      if (Integer.bitCount(set) >= best) continue;
      int[] root = new int[w + h];
      for (int i = 0; i < root.length; i++) root[i] = i;
      for (int c = 0; c < w * h; c++) if ((set >> c & 1) != 0) {
        int from = root[c / w], to = root[h + c % w];
        for (int i = 0; i < root.length; i++) if (root[i] == from) root[i] = to;
      }
      long[] together = new long[w + h];
      for (int i = 0; i < root.length; i++) together[root[i]] += lack[i];
      if (Arrays.stream(together).allMatch(v -> v == 0)) best = Integer.bitCount(set);
    }
    return best;
  }
  /** All ways to part rows and columns into groups; a group with more than one of them needs both kinds. */
  private int leastByGroups(long[] lack, int i, List<List<Integer>> groups) {
    if (i == lack.length) {
      int cells = 0;
      for (List<Integer> g : groups) {
        long sum = 0; boolean row = false, column = false;
        for (int k : g) { sum += lack[k]; if (k < h) row = true; else column = true; }
        if (sum != 0 || (g.size() > 1 && !(row && column))) return 99;
        cells += g.size() - 1;
      }
      return cells;
    }
    int best = 99;
    for (int g = 0; g <= groups.size(); g++) {
      boolean fresh = g == groups.size();
      if (fresh) groups.add(new ArrayList<>());
      groups.get(g).add(i);
      best = Math.min(best, leastByGroups(lack, i + 1, groups));
      groups.get(g).remove(groups.get(g).size() - 1);
      if (fresh) groups.remove(g);
    }
    return best;
  }
  int second(int step, int cell) {
    if (!in(step, 1, 12) || !cell(cell)) return BAD;
    int bits = 0;
    for (int l = 0; l < 4; l++) if (hall(false).made(step, cell, l) != hall(false).at(step, cell, l)) bits += 1 << l;
    return bits;
  }
  int put(int i, int v) {
    if (!cell(i) || !in(v, -1000000000, 1000000000)) return -2000000000;
    int was = judged[i]; judged[i] = v; return was;
  }
  int judge(int step, int letter) {
    if (!in(step, 1, 12) || !in(letter, 0, 3)) return BAD;
    for (int c = 0; c < w * h; c++) if (hall(false).made(step, c, letter) != judged[c]) return c;
    return NONE;
  }
  int pace(int person, int v) {
    if (!in(person, 0, 5) || !in(v, 1, 20)) return BAD;
    int was = pace[person]; pace[person] = v; return was;
  }
  int give(int cell, int person) {
    if (!cell(cell) || !in(person, 0, 5)) return BAD;
    int was = owner[cell]; owner[cell] = person; return was;
  }
  /** A cell's step waits for the one that its person does ahead of it, and for notes. */
  private int ended(int step, int cell, int[] whose, Map<Integer, Integer> memo) {
    if (step == 0) return 0;
    int key = step * 36 + cell;
    if (memo.containsKey(key)) return memo.get(key);
    int begun = 0;
    int ahead = cell - 1, aheadStep = step;
    while (aheadStep > 0) {
      if (ahead < 0) { ahead = w * h - 1; aheadStep--; continue; }
      if (whose[ahead] == whose[cell]) { begun = ended(aheadStep, ahead, whose, memo); break; }
      ahead--;
    }
    for (char side : "nesw".toCharArray()) {
      int near = near(w, h, edge, cell, side);
      if (near >= 0 && step > 1) begun = Math.max(begun, ended(step - 1, near, whose, memo) + (whose[near] == whose[cell] ? 0 : walk));
    }
    memo.put(key, begun + pace[whose[cell]]);
    return begun + pace[whose[cell]];
  }
  private int last(int step, int[] whose) {
    int last = 0;
    Map<Integer, Integer> memo = new HashMap<>();
    for (int c = 0; c < w * h; c++) last = Math.max(last, ended(step, c, whose, memo));
    return last;
  }
  int when(int step, int cell) {
    if (!in(step, 0, 12) || (cell != -1 && !cell(cell))) return BAD;
    return cell == -1 ? last(step, owner) : ended(step, cell, owner, new HashMap<>());
  }
  int slowest(int step) {
    if (!in(step, 1, 12)) return BAD;
    int c = 0;
    while (ended(step, c, owner, new HashMap<>()) != last(step, owner)) c++;
    return c;
  }
  private String shareOf = ""; private int[] shared; private int sharedLast;
  int given(int q, int n, int cell) {
    if (!in(q, 1, 3) || !in(n, 0, 12) || (cell != -1 && !cell(cell))) return BAD;
    if (w * h > 9) return NO;
    String of = w + " " + h + " " + edge + " " + walk + " " + Arrays.toString(pace) + " " + q + " " + n;
    if (!of.equals(shareOf)) { shareOf = of; sharedLast = Integer.MAX_VALUE; tryAll(q, n, 0, new int[36]); }
    return cell == -1 ? sharedLast : shared[cell];
  }
  private void tryAll(int q, int n, int cell, int[] whose) {
    if (cell == w * h) {
      int last = last(n, whose);
      if (last < sharedLast) { sharedLast = last; shared = whose.clone(); }
      return;
    }
    for (int p = 0; p < q; p++) { whose[cell] = p; tryAll(q, n, cell + 1, whose); }
  }
  int known(int cell, int minute) {
    if (!cell(cell) || !in(minute, 0, 100000)) return BAD;
    int step = 12;
    while (ended(step, cell, owner, new HashMap<>()) > minute) step--;
    return step;
  }
  private static int mean(Sky sky, int step, int letter, int x, int y) {
    double sum = 0;
    for (int dy = 0; dy < 2; dy++) for (int dx = 0; dx < 2; dx++) {
      int v = sky.at(step, (2 * y + dy) * sky.w + 2 * x + dx, letter);
      if (v == VOID) return VOID;
      sum += v;
    }
    return (int) Math.floor(sum / 4);
  }
  int coarse(int n, int letter, int e) {
    if (!in(n, 1, 12) || !in(letter, 0, 3) || !in(e, 0, 1000000)) return BAD;
    if (w % 2 == 1 || h % 2 == 1) return NO;
    int sw = w / 2, sh = h / 2, off = 0;
    int[][] first = new int[sw * sh][4];
    for (int c = 0; c < sw * sh; c++) for (int l = 0; l < 4; l++) first[c][l] = mean(hall(true), 0, l, c % sw, c / sw);
    Sky small = new Sky(sw, sh, edge, rim, plan, new ArrayList<>(), first);
    for (int c = 0; c < sw * sh; c++) {
      long one = small.at(n, c, letter), other = mean(hall(true), n, letter, c % sw, c / sw);
      if (one == VOID || other == VOID || Math.abs(one - other) > e) off++;
    }
    return off;
  }
  int keep() {
    if (kept.size() == 2) return FULL;
    kept.add(new Kept(plan, new HashMap<>(firsts), new ArrayList<>(slips), edge, rim.clone()));
    return kept.size();
  }
  int back() {
    if (kept.isEmpty()) return NO;
    touched();
    Kept k = kept.remove(kept.size() - 1);
    plan = k.plan; firsts = new HashMap<>(k.firsts); slips = new ArrayList<>(k.slips); edge = k.edge; rim = k.rim.clone();
    return kept.size();
  }
  int count(int what) {
    switch (what) {
      case 0: return w * h;
      case 1: return text.length();
      case 2: return plan.size();
      case 3: return 4 * w * h - firsts.size();
      case 4: return slips.size();
      case 5: return kept.size();
      case 6: return told.size();
      default: return BAD;
    }
  }
}
