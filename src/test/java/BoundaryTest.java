import java.io.IOException;
import java.lang.reflect.InvocationTargetException;
import java.lang.reflect.Method;
import java.lang.reflect.Modifier;
import java.nio.file.Files;
import java.nio.file.Path;
import java.util.ArrayList;
import java.util.Arrays;
import java.util.List;
import java.util.Map;
import java.util.Random;
import java.util.function.ToLongFunction;

/**
 * The document sentence by sentence: each is quoted by says(..), and the calls behind it are the
 * boundary cases that it names. At the end nothing of the terms and promises may be left unquoted.
 */
public final class BoundaryTest {
    private static final int BAD = -1, NO = -2, FULL = -3, NONE = -4;
    private static final int VOID = 2000000000, GAP = 2000000, BAD_FIRST = -2000000, BAD_NUMBER = -2000000000;
    private static final long BAD_SUM = -2000000000000L, UNTOLD = 2000000000000L;
    private static final int MILLION = 1000000, MILLIARD = 1000000000;
    private static final int[] NOT_LETTERS = {-1, 4, Integer.MIN_VALUE, Integer.MAX_VALUE};
    private static final int[] NOT_STEPS = {-1, 13, Integer.MIN_VALUE, Integer.MAX_VALUE};
    private static final List<String> said = new ArrayList<>();
    private static int passed = 0, failed = 0, calls = 0;
    private static ForecastHall x;

    public static void main(String[] args) throws Exception {
        cells(); numbers(); neighbours();
        text(); lines(); terms(); names(); faults();
        made(); voids(); firstNumbers(); filled(); marked(); slips();
        spread(); kept(); grows(); sums(); least(); second(); judged();
        people(); last(); given(); known(); coarse();
        refused(); interfaceSays();
        promises1to9(); promises10to18(); promises19to24(); promises25to34();
        neverThrows();
        allSaid();
        System.out.println("boundaries: " + passed + " passed, " + failed + " failed");
        if (failed > 0) System.exit(1);
    }

    // ---- how a test is told

    private static void says(String sentence) {
        said.add(sentence);
        calls = 0;
        x = new ForecastHall();
    }
    private static void due(long got, long want) {
        calls++;
        if (got == want) { passed++; return; }
        failed++;
        System.out.println("call " + calls + " of «" + said.get(said.size() - 1) + "»: answered " + got + ", due is " + want);
    }
    private static void fresh() { x = new ForecastHall(); }
    private static void fresh(int w, int h) { fresh(); x.sky(w, h); }
    private static void writeAll(ForecastHall to, String text) {
        for (int i = 0; i < text.length(); i += 8) {
            int n = Math.min(8, text.length() - i);
            long v = 0;
            for (int k = 0; k < n; k++) v = v << 8 | text.charAt(i + k);
            to.write(n, v);
        }
    }
    private static int fault(String text) { x.wipe(); writeAll(x, text); return x.fault(); }
    private static int plan(String text) { x.wipe(); writeAll(x, text); return x.plan(); }
    private static void firsts(int letter, int... v) { for (int c = 0; c < v.length; c++) x.first(c, letter, v[c]); }
    private static void all(int letter, int v) { for (int c = 0; c < x.count(0); c++) x.first(c, letter, v); }
    private static void tellAll(int step, int letter, long[] rows, long[] columns) {
        for (int y = 0; y < rows.length; y++) x.tell(step, letter, false, y, rows[y]);
        for (int c = 0; c < columns.length; c++) x.tell(step, letter, true, c, columns[c]);
    }
    private static String times(String part, int n) { return part.repeat(n); }

    // ---- terms 1: the sky

    private static void cells() {
        says("==== 1 THE SKY has W by H CELLS (2 to 6 each; 3 by 3 at first): CELL = W y + x.");
        due(x.count(0), 9); due(x.at(true, 0, 8, 0), 0); due(x.at(true, 0, 9, 0), BAD_NUMBER);
        for (int w = 1; w <= 7; w++) for (int h = 1; h <= 7; h++) {
            boolean may = w >= 2 && w <= 6 && h >= 2 && h <= 6;
            due(x.sky(w, h), may ? w * h : BAD);
            if (!may) continue;
            due(x.count(0), w * h); due(x.at(false, 12, w * h - 1, 3), 0); due(x.at(false, 12, w * h, 3), BAD_NUMBER);
        }
        fresh();
        plan("a=as;b=be;");
        x.sky(5, 2); x.first(7, 0, 3); x.first(3, 1, 4);
        due(x.at(true, 1, 2, 0), 3); due(x.at(true, 1, 2, 1), 4);
        x.sky(2, 5); x.first(7, 0, 3); x.first(3, 1, 4);
        due(x.at(true, 1, 5, 0), 3); due(x.at(true, 1, 2, 1), 4);
        // both sides of the first shape
        fresh();
        plan("a=as;b=be;"); x.rule(0, 2); x.first(8, 0, 5); x.first(8, 1, 6);
        due(x.at(true, 1, 5, 0), 5); due(x.at(true, 1, 7, 1), 6); due(x.at(true, 1, 8, 0), 0);
    }

    private static void numbers() {
        says("Each has NUMBERS a, b, c, d (0 to 3) at STEPS 0, 1, .. 12: whole, of size 1000000000 at most, or VOID.");
        for (int letter : NOT_LETTERS) {
            due(x.rim(letter, 0), BAD_FIRST); due(x.line(letter, 0), BAD); due(x.first(0, letter, 0), BAD_FIRST); due(x.at(true, 0, 0, letter), BAD_NUMBER);
            due(x.marked(0, 0, letter), BAD); due(x.sum(true, 0, letter), BAD_SUM); due(x.slip(1, 0, letter, 1), BAD); due(x.kept(letter), BAD);
            due(x.tell(0, letter, false, 0, 0), BAD); due(x.judge(1, letter), BAD); due(x.coarse(1, letter, 0), BAD);
        }
        for (int step : NOT_STEPS) {
            due(x.at(true, step, 0, 0), BAD_NUMBER); due(x.at(false, step, 0, 0), BAD_NUMBER); due(x.marked(step, 0, 0), BAD); due(x.sum(true, step, 0), BAD_SUM);
            due(x.sum(false, step, 0), BAD_SUM); due(x.tell(step, 0, true, 0, 0), BAD); due(x.when(step, 0), BAD); due(x.when(step, -1), BAD);
            due(x.given(1, step, -1), BAD);
        }
        String[] own = {"a=a+1a;", "b=b+1b;", "c=c+1c;", "d=d+1d;"};
        for (int letter = 0; letter < 4; letter++) {
            fresh();
            due(plan(own[letter]), 1); x.first(8, letter, 1);
            for (int step = 0; step <= 12; step++) due(x.at(true, step, 8, letter), 1 << step);
            for (int other = 0; other < 4; other++) if (other != letter) due(x.at(true, 12, 8, other), 0);
        }
        // 1000000000 stands, one more does not; so below 0
        fresh();
        plan("a=b.c+d;"); x.first(0, 1, MILLION); x.first(0, 2, 1000); x.first(0, 3, 0);
        due(x.at(true, 1, 0, 0), MILLIARD); x.first(0, 3, 1); due(x.at(true, 1, 0, 0), VOID); x.first(0, 3, -1); due(x.at(true, 1, 0, 0), MILLIARD - 1);
        x.first(0, 2, -1000); due(x.at(true, 1, 0, 0), VOID); x.first(0, 3, 0); due(x.at(true, 1, 0, 0), -MILLIARD); x.first(0, 3, 1);
        due(x.at(true, 1, 0, 0), 1 - MILLIARD);
    }

    private static void neighbours() {
        says("A neighbour: n is y - 1, e x + 1, s y + 1, w x - 1; beyond an EDGE: 0 (at first): the CELL at the other side; 1: the CELL itself; 2: a fixed NUMBER (RIM of each letter, -1000000 to 1000000; 0 at first).");
        due(x.rule(0, 0), 0);
        String[] sides = {"c=cn;", "c=ce;", "c=cs;", "c=cw;"};
        int[] dx = {0, 1, 0, -1}, dy = {-1, 0, 1, 0};
        int[][] shapes = {{3, 3}, {2, 5}, {6, 2}, {4, 3}};
        for (int[] shape : shapes) for (int edge = 0; edge < 3; edge++) for (int side = 0; side < 4; side++) {
            int w = shape[0], h = shape[1];
            fresh(w, h);
            plan(sides[side]); x.rule(0, edge); x.rim(2, 77);
            for (int c = 0; c < w * h; c++) x.first(c, 2, 100 + c);
            for (int c = 0; c < w * h; c++) {
                int nx = c % w + dx[side], ny = c / w + dy[side];
                boolean beyond = nx < 0 || nx >= w || ny < 0 || ny >= h;
                int round = (ny + h) % h * w + (nx + w) % w;
                due(x.at(true, 1, c, 2), !beyond || edge == 0 ? 100 + round : edge == 1 ? 100 + c : 77);
            }
        }
        fresh();
        plan("a=an;b=bn;c=cn;d=dn;"); x.rule(0, 2);
        for (int letter = 0; letter < 4; letter++) due(x.at(true, 1, 0, letter), 0);
        int[] rims = {-MILLION, MILLION, 1, -1};
        for (int letter = 0; letter < 4; letter++) due(x.rim(letter, rims[letter]), 0);
        for (int letter = 0; letter < 4; letter++) due(x.at(true, 1, 0, letter), rims[letter]);
        for (int letter = 0; letter < 4; letter++) { due(x.rim(letter, MILLION + 1), BAD_FIRST); due(x.rim(letter, -MILLION - 1), BAD_FIRST); }
        for (int letter = 0; letter < 4; letter++) due(x.at(true, 1, 0, letter), rims[letter]);
    }

    // ---- terms 1: plans

    private static void text() {
        says("A PLAN is a TEXT of bytes, 160 at most: LINES, each for one letter, none twice (4 at most):");
        // a plan of 160 bytes to the last one
        String longest = "a=" + times("b+", 37) + "b;b=" + times("c-", 24) + "c;c=" + times("-d", 11) + ";d=+d;";
        due(longest.length(), 160); due(fault(longest), NONE); due(x.count(1), 160); due(x.plan(), 4); due(x.line(0, 1), 38); due(x.line(1, 1), 25);
        due(x.line(2, 1), 11);
        due(x.write(1, ' '), FULL); due(x.fault(), NONE); due(x.count(1), 160);
        fresh();
        for (int i = 0; i < 20; i++) due(x.write(8, 0x613d623b633d643bL), 8 * i + 8);
        for (int n = 1; n <= 8; n++) due(x.write(n, 0), FULL);
        due(x.fault(), 8);
        // 4 lines in any order; a letter twice, next to itself, later, as a fifth
        due(plan("a=a;b=b;c=c;d=d;"), 4); due(plan("d=d;c=c;b=b;a=a;"), 4);
        for (int letter = 0; letter < 4; letter++) due(x.line(letter, 0), 3 - letter);
        due(fault("a=a;a=a;"), 4); due(fault("a=a;b=b;a=a;"), 8); due(fault("d=d;d=d;"), 4);
        for (String fifth : new String[] {"a", "b", "c", "d", "e"}) due(fault("a=a;b=b;c=c;d=d;" + fifth + "=a;"), 16);
        due(fault("a=a;b=b;c=c;d=d;;"), 16);
    }

    private static void lines() {
        says("letter, =, TERMS, and perhaps / and a divisor (1 to 1000; 1 without), and perhaps ~ , then ; .");
        due(plan("a=b;b=b/1;c=b/1000;d=b/999~;"), 4);
        due(x.line(0, 2), 1); due(x.line(1, 2), 1); due(x.line(2, 2), 1000); due(x.line(3, 2), 999);
        due(x.line(0, 3), 0); due(x.line(1, 3), 0); due(x.line(2, 3), 0); due(x.line(3, 3), 1);
        due(plan("a=b~;"), 1); due(x.line(0, 2), 1); due(x.line(0, 3), 1);
        due(fault("a=b/0;"), 4); due(fault("a=b/1001;"), 4); due(fault("a=b/1000;"), NONE); due(fault("a=b/1;"), NONE);
        due(fault("a=b/9999999999999999999999;"), 4); due(fault("a=b/18446744073709551617;"), 4); due(fault("a=b/4294967297;"), 4);
        due(fault("a=b~/2;"), 4); due(fault("a=b/2/2;"), 5); due(fault("a=b~~;"), 4); due(fault("a=/2;"), 2); due(fault("a=~;"), 2);
        due(fault("a=b"), 3); due(fault("a=b/2"), 5); due(fault("a=b~"), 4); due(fault("ab;"), 1); due(fault("=b;"), 0);
        due(fault("A=b;"), 0); due(fault("e=b;"), 0); due(fault("`=b;"), 0); due(fault("a==b;"), 2); due(fault("a = b;"), 1);
    }

    private static void terms() {
        says("TERMS: one or more, each with + or - ahead (of the first + may be left out), perhaps a factor (1 to 999, figures without 0 ahead), a NAME, perhaps . and another NAME (a product).");
        due(fault("a=;"), 2); due(fault("a=b;"), NONE); due(fault("a=+b;"), NONE); due(fault("a=-b;"), NONE); due(fault("a=bc;"), 3); due(fault("a=b2c;"), 3);
        due(fault("a=b+c-d;"), NONE); due(fault("a=b+;"), 4); due(fault("a=+;"), 3); due(fault("a=--b;"), 3); due(fault("a=b+-c;"), 4); due(fault("a=2+b;"), 3);
        due(fault("a=1b;"), NONE); due(fault("a=999b;"), NONE); due(fault("a=+999b-1c;"), NONE); due(fault("a=0b;"), 2); due(fault("a=1000b;"), 2);
        due(fault("a=01b;"), 2); due(fault("a=00b;"), 2);
        due(fault("a=b+0c;"), 4); due(fault("a=b-1000c;"), 4); due(fault("a=b+099c;"), 4); due(fault("a=b+18446744073709551617c;"), 4); due(fault("a=4294967297b;"), 2);
        due(fault("a=b.c;"), NONE); due(fault("a=999b.c;"), NONE); due(fault("a=b.c.d;"), 5); due(fault("a=b.2c;"), 4); due(fault("a=b.-c;"), 4); due(fault("a=.b;"), 2);
        due(fault("a=2.b;"), 3);
        // what the signs and factors make: 1 without a factor
        fresh();
        plan("a=+b-c;b=-b+999c;c=b.c-2b;d=1d;"); x.first(0, 1, 7); x.first(0, 2, 3); x.first(0, 3, 5);
        due(x.at(true, 1, 0, 0), 4); due(x.at(true, 1, 0, 1), 2990); due(x.at(true, 1, 0, 2), 7); due(x.at(true, 1, 0, 3), 5);
        due(x.line(0, 1), 2); due(x.line(3, 1), 1); due(x.line(2, 4), 1); due(x.line(0, 4), 0);
    }

    private static void names() {
        says("A NAME: a letter a to d, perhaps n, e, s or w, perhaps ' : the NUMBER of that CELL at the STEP ahead; with ' at this STEP (only of the CELL itself: none of n, e, s, w; and only of a letter whose LINE was told ahead in THE TEXT).");
        for (char letter : "abcd".toCharArray()) for (String side : new String[] {"", "n", "e", "s", "w"}) {
            due(fault("a=" + letter + side + ";"), NONE);
            due(fault("a=" + letter + side + "." + letter + side + ";"), NONE);
            due(fault("b=a;a=b" + side + "';"), side.isEmpty() ? NONE : 6);
            due(fault("a=b" + side + "';"), 2);
        }
        due(fault("a=e;"), 2); due(fault("a=n;"), 2); due(fault("a=bns;"), 4); due(fault("a=b'n;"), 2); due(fault("b=b;a=b'n;"), 8); due(fault("b=b;a=b'';"), 8);
        // of its own line, of a line to come, of none
        due(fault("a=a';"), 2); due(fault("a=b';b=b;"), 2); due(fault("a=a;b=a'+b';"), 9); due(fault("a=a;b=a'.c';"), 9); due(fault("a=a;b=a';c=b'-a'.b';d=c';"), NONE);
        due(fault("a=a;b=a'.an';"), 9); due(fault("a=a;b=3an'.a;"), 7);
        // the step ahead, and this step
        fresh();
        plan("a=a+b;b=a';c=a;d=as;"); x.first(4, 0, 10); x.first(4, 1, 1); x.first(4, 2, 0); x.first(1, 3, 0); x.first(7, 0, 0); x.first(7, 1, 0);
        due(x.at(true, 1, 4, 0), 11); due(x.at(true, 1, 4, 1), 11); due(x.at(true, 1, 4, 2), 10); due(x.at(true, 1, 1, 3), 10);
        due(x.at(true, 2, 4, 0), 22); due(x.at(true, 2, 4, 1), 22); due(x.at(true, 2, 4, 2), 11); due(x.at(true, 2, 1, 3), 11);
    }

    /** What may stand behind a text that is right so far: by each of the 256 bytes, where the fault is. */
    private static void behind(String text, String mayStand, String ends, Map<String, Integer> others) {
        for (int b = 0; b < 256; b++) {
            fresh();
            writeAll(x, text);
            x.write(1, b);
            int want = text.length();
            if (mayStand.indexOf(b) >= 0) want = text.length() + 1;
            if (ends.indexOf(b) >= 0) want = NONE;
            for (Map.Entry<String, Integer> other : others.entrySet()) if (other.getKey().indexOf(b) >= 0) want = other.getValue();
            due(x.fault(), want);
        }
    }

    private static void faults() {
        says("FAULT: the place of the first byte that can't stand there (a number that is not as told: its first byte; a letter told twice, one with ' that may not be: that letter; the end: how many bytes there are).");
        String figures = "0123456789", ahead = "123456789", sides = "nesw", letters = "abcd", join = ".+-/~";
        behind("", letters, "", Map.of());
        behind("a", "=", "", Map.of());
        behind("a=", "+-" + ahead + letters, "", Map.of());
        behind("a=-", ahead + letters, "", Map.of());
        behind("a=5", figures + letters, "", Map.of());
        behind("a=99", figures + letters, "", Map.of());
        behind("a=999", letters, "", Map.of(figures, 2));
        behind("a=b", sides + join, ";", Map.of("'", 2));
        behind("a=bn", join, ";", Map.of("'", 2));
        behind("a=b.", letters, "", Map.of());
        behind("a=b.c", sides + "+-/~", ";", Map.of("'", 4));
        behind("a=b.cw", "+-/~", ";", Map.of("'", 4));
        behind("a=b+", ahead + letters, "", Map.of());
        behind("a=b-12", figures + letters, "", Map.of());
        behind("a=b/", ahead, "", Map.of());
        behind("a=b/1", figures + "~", ";", Map.of());
        behind("a=b/100", "0~", ";", Map.of(ahead, 4));
        behind("a=b/101", "~", ";", Map.of(figures, 4));
        behind("a=b/1000", "~", ";", Map.of(figures, 4));
        behind("a=b~", "", ";", Map.of());
        behind("a=b/7~", "", ";", Map.of());
        behind("a=b;", "bcd", "", Map.of("a", 4));
        behind("a=b;c=d;", "bd", "", Map.of("ac", 8));
        behind("a=b;b=a", "'" + sides + join, ";", Map.of());
        behind("a=b;b=a'", join, ";", Map.of());
        behind("a=b;b=a'.a", "'" + sides + "+-/~", ";", Map.of());
        behind("a=b;b=a'.a'", "+-/~", ";", Map.of());
        // a number that is not as told, whatever stands behind it, the end too
        for (String rest : new String[] {"", "b", "b;", "x", ";", "9"}) {
            due(fault("a=1000" + rest), 2); due(fault("a=0" + rest), 2); due(fault("a=012" + rest), 2); due(fault("a=b-1000" + rest), 4);
            due(fault("a=b/0" + rest), 4); due(fault("a=b/1001" + rest), 4); due(fault("a=b/00" + rest), 4);
        }
        // the first of several
        due(fault("x=0b;"), 0); due(fault("a=0b'"), 2); due(fault("a=b'+0c"), 2); due(fault("a=b/0/0;"), 4); due(fault("a=b;a=0"), 4); due(fault("a=b;ab"), 4);
        // each end of a text that is right so far, and each byte of it spoilt
        fresh();
        String whole = "c=-12an.bw+d-999c/1000~;a=c'.c'+bs/10;d=b;";
        for (int n = 0; n < whole.length(); n++) {
            boolean lineEnds = n == 0 || whole.charAt(n - 1) == ';';
            due(fault(whole.substring(0, n)), lineEnds ? NONE : n);
            due(fault(whole.substring(0, n) + "!" + whole.substring(n + 1)), n);
            due(fault(whole.substring(0, n) + (char) 0 + whole.substring(n)), n);
            if (n % 16 == 15) fresh();
        }
        due(fault(whole), NONE); due(fault(whole + "b"), whole.length() + 1); due(fault(whole + "a"), whole.length());
        // the end of the fullest text
        due(fault("a=b" + times("+b", 78)), 159); due(fault("a=b" + times("+b", 78) + "+"), 160); due(fault("a=b" + times("+b", 78) + ";"), NONE);
        due(fault("a=b" + times("+b", 78) + "b"), 159);

        says("The empty TEXT is no FAULT: no LINES.");
        due(x.fault(), NONE); due(x.plan(), 0); due(x.count(2), 0);
        due(plan("a=b;"), 1); x.wipe(); due(x.fault(), NONE); due(x.count(2), 1); due(x.plan(), 0); due(x.count(2), 0); due(x.line(0, 0), NONE);
    }

    // ---- terms 1: numbers

    private static void made() {
        says("MADE is a NUMBER by its LINE: the sum of TERMS by the divisor, rounded down, or, with ~ , to the nearest (half a one up);");
        for (int by : new int[] {1, 2, 3, 4, 10, 999, 1000}) {
            fresh();
            plan("a=c-d/" + by + ";b=c-d/" + by + "~;");
            for (int t = -13; t <= 13; t++) {
                int sum = t * Math.max(1, by / 4), down = -20000, nearest = -20000;
                while ((down + 1) * by <= sum) down++;
                while (2 * (nearest + 1) * by <= 2 * sum + by) nearest++;
                x.first(0, 2, sum + 5); x.first(0, 3, 5);
                due(x.at(true, 1, 0, 0), down); due(x.at(true, 1, 0, 1), nearest);
            }
        }
        // half a one up, above 0 and below; rounded once, of the sum
        fresh();
        plan("a=a/2~;b=b/2;c=c+c+c/2;d=d+d+d/2~;");
        int[] halves = {5, -5, 1, -1, 0};
        int[][] want = {{3, 2, 7, 8}, {-2, -3, -8, -7}, {1, 0, 1, 2}, {0, -1, -2, -1}, {0, 0, 0, 0}};
        for (int i = 0; i < halves.length; i++) {
            for (int letter = 0; letter < 4; letter++) x.first(0, letter, halves[i]);
            for (int letter = 0; letter < 4; letter++) due(x.at(true, 1, 0, letter), want[i][letter]);
        }

        says("A letter without a LINE stays as it is.");
        plan("a=b;"); x.first(0, 1, MILLION); x.first(0, 2, -MILLION); x.slip(3, 0, 2, 9);
        for (int step = 0; step <= 12; step++) {
            due(x.at(true, step, 0, 1), MILLION); due(x.at(true, step, 0, 2), -MILLION); due(x.at(true, step, 0, 3), 0);
            due(x.at(false, step, 0, 2), step < 3 ? -MILLION : 9 - MILLION);
        }
        // no lines at all
        plan(""); for (int step = 0; step <= 12; step++) due(x.at(true, step, 0, 0), 0);
    }

    private static void voids() {
        says("VOID, if one it leans on is, or its size is above 1000000000, or a TERM's or the sum's above 1000000000000000.");
        // b of cell 0 is VOID from step 1 on; 2000000000, as it is told, would do under all of these divisors
        String[] lean = {"a=b;", "a=b/2;", "a=b/1000;", "a=b/3~;", "a=-b/2;", "a=c+b/4;", "a=b+c/4;", "a=c-b/4~;", "a=b-b;", "a=c.b;", "a=b.c;", "a=c.b/1000;", "a=b.c/1000;", "a=b.b/1000;", "a=999c.c-b+b;", "a=c+c.b-c;"};
        for (String line : lean) {
            fresh();
            due(plan("b=b.b;" + line), 2); x.rule(0, 2);
            x.first(0, 1, MILLION); x.first(0, 2, 0); x.first(1, 1, 0); x.first(1, 2, 0);
            due(x.at(true, 1, 0, 1), VOID); due(x.at(true, 2, 0, 0), VOID); due(x.at(true, 12, 0, 0), VOID); due(x.at(true, 2, 1, 0), 0);
            due(plan("b=b.b;" + line.replace("b", "b'")), 2);
            due(x.at(true, 1, 0, 0), VOID); due(x.at(true, 1, 1, 0), 0);
            due(plan("b=b.b;" + line.replace("b", "bw")), 2);
            due(x.at(true, 2, 1, 0), VOID); due(x.at(true, 2, 0, 0), 0);
        }
        // however the other terms make up for it: a VOID one is VOID still
        fresh();
        plan("b=b.c;d=b-999c.c-999c.c-2c.c/1000;"); x.first(0, 1, MILLION); x.first(0, 2, MILLION);
        due(x.at(true, 1, 0, 1), VOID); due(x.at(true, 2, 0, 3), VOID);
        plan("b=b.c;d=c.b-999c.c-999c.c-2c.c/1000;");
        due(x.at(true, 2, 0, 3), VOID);
        // so is one that is too large, by its product or by its factor
        for (String large : new String[] {"b.be", "999b.c", "-b.be", "-999b.c"}) {
            fresh();
            String less = large.charAt(0) == '-' ? "+999c.c+999c.c+2c.c" : "-999c.c-999c.c-2c.c";
            plan("b=b.d;a=" + large + less + "/1000;"); all(1, MILLION); all(2, MILLION); all(3, 1000);
            due(x.at(true, 1, 0, 1), MILLIARD); due(x.at(true, 2, 0, 0), VOID);
        }
        // its size
        fresh();
        plan("a=b.c+d;b=-b.c-d;"); x.first(0, 1, MILLION); x.first(0, 2, 1000); x.first(0, 3, 0);
        due(x.at(true, 1, 0, 0), MILLIARD); due(x.at(true, 1, 0, 1), -MILLIARD); x.first(0, 3, 1); due(x.at(true, 1, 0, 0), VOID); due(x.at(true, 1, 0, 1), VOID);
        // behind the divisor, and as it is rounded
        fresh();
        plan("a=b.c+d/1000;b=b.c+d/1000~;"); x.first(0, 1, MILLION); x.first(0, 2, MILLION);
        int[] more = {0, 499, 500, 999, 1000, -1, -500, -501};
        int[] down = {MILLIARD, MILLIARD, MILLIARD, MILLIARD, VOID, MILLIARD - 1, MILLIARD - 1, MILLIARD - 1}, near = {MILLIARD, MILLIARD, VOID, VOID, VOID, MILLIARD, MILLIARD, MILLIARD - 1};
        for (int i = 0; i < more.length; i++) { x.first(0, 3, more[i]); due(x.at(true, 1, 0, 0), down[i]); due(x.at(true, 1, 0, 1), near[i]); }
        x.first(0, 2, -MILLION);
        int[] below = {-MILLIARD, -MILLIARD, -MILLIARD, -MILLIARD, 1 - MILLIARD, VOID, VOID, VOID}, nearBelow = {-MILLIARD, -MILLIARD, 1 - MILLIARD, 1 - MILLIARD, 1 - MILLIARD, -MILLIARD, -MILLIARD, VOID};
        for (int i = 0; i < more.length; i++) { x.first(0, 3, more[i]); due(x.at(true, 1, 0, 0), below[i]); due(x.at(true, 1, 0, 1), nearBelow[i]); }
        // a term's: b of cells 0 and 1 is made first, their product is taken away from itself
        due(product(MILLION, 1000, 0, 1000, 1000, 0, "b.be"), 0); // 1000000000000000
        due(product(109889, 1000, 11, 9100, 1000, 91, "b.be"), VOID); // 109889011 times 9100091: one more
        due(product(-109889, 1000, -11, 9100, 1000, 91, "b.be"), VOID);
        due(product(-MILLION, 1000, 0, 1000, 1000, 0, "b.be"), 0);
        due(product(MILLION, 1000, 0, 500, 1000, 0, "2b.be"), 0); due(product(MILLION, 1000, 0, 500, 1000, 1, "2b.be"), VOID);
        due(product(MILLION, 1000, 0, 1, 1001, 0, "999b.be"), 0); due(product(MILLION, 1000, 0, 1, 1002, 0, "999b.be"), VOID);
        // beyond what 64 bits hold: 512 times 134217728 times 268435456 is 2 to the 64th
        due(product(131072, 1024, 0, 262144, 1024, 0, "512b.be"), VOID); due(product(131072, 1024, 0, 262144, 1024, 0, "b.be"), VOID);
        // the sum's
        fresh();
        plan("a=999b.c+b.c/1000;d=999b.c+2b.c/1000;"); x.first(0, 1, MILLION); x.first(0, 2, MILLION);
        due(x.at(true, 1, 0, 0), VOID); due(x.at(true, 1, 0, 3), VOID);
        // the sum of all terms, not of the first ones
        plan("a=999b.c+999b.c-999b.c-998b.c/1000;"); due(x.at(true, 1, 0, 0), MILLIARD);
        plan("a=" + times("+999b.c", 10) + times("-999b.c", 10) + ";"); due(x.line(0, 1), 20); due(x.at(true, 1, 0, 0), 0);
        // a rim is no VOID
        fresh();
        plan("a=an;"); x.rule(0, 2); x.rim(0, MILLION); due(x.at(true, 12, 0, 0), MILLION);
    }

    /** b is made p q + r in cell 0 and s t + u in cell 1 at step 1; the term less itself at step 2 in cell 0. */
    private static int product(int p, int q, int r, int s, int t, int u, String term) {
        fresh();
        plan("b=b.c+d;a=" + term + "-" + term + ";");
        firsts(1, p, s); firsts(2, q, t); firsts(3, r, u);
        due(x.at(true, 1, 0, 1), p * q + r); due(x.at(true, 1, 1, 1), s * t + u);
        return x.at(true, 2, 0, 0);
    }

    private static void firstNumbers() {
        says("FIRST NUMBERS (STEP 0) are told (-1000000 to 1000000) or GAPS (at first).");
        due(x.count(3), 36);
        for (int c = 0; c < 9; c++) for (int letter = 0; letter < 4; letter++) due(x.first(c, letter, GAP), GAP);
        due(x.first(0, 0, MILLION), GAP); due(x.at(true, 0, 0, 0), MILLION); due(x.first(0, 0, MILLION + 1), BAD_FIRST); due(x.first(0, 0, -MILLION - 1), BAD_FIRST);
        due(x.first(0, 0, -MILLION), MILLION); due(x.at(true, 0, 0, 0), -MILLION); due(x.at(false, 0, 0, 0), -MILLION);
        due(x.first(0, 0, GAP - 1), BAD_FIRST); due(x.first(0, 0, GAP + 1), BAD_FIRST); due(x.first(0, 0, -GAP), BAD_FIRST); due(x.first(0, 0, VOID), BAD_FIRST);
        due(x.count(3), 35); due(x.first(0, 0, GAP), -MILLION); due(x.count(3), 36); due(x.first(0, 0, 0), GAP); due(x.count(3), 35); due(x.first(0, 0, 0), 0);
    }

    private static void filled() {
        says("FILLED is a GAP by the mean, rounded down, of those told of its four neighbours (by the EDGE; RIM counts; a neighbour twice counts twice); where none is told: 0.");
        // of the middle cell: its neighbours are 1, 5, 7, 3
        int[] around = {1, 5, 7, 3};
        int[][] told = {{}, {7}, {7, 8}, {7, 8, 8}, {-7, -8}, {-1, 0, 0}, {-1, 0, 0, 0}, {1, 0, 0, 0}, {1, 1, 1, 0}, {MILLION, MILLION, MILLION, MILLION}, {-MILLION, -MILLION, -MILLION, -MILLION}, {-MILLION, MILLION, 1, -2}, {3, 4, 5, -13}};
        int[] want = {0, 7, 7, 7, -8, -1, -1, 0, 0, MILLION, -MILLION, -1, -1};
        for (int i = 0; i < told.length; i++) for (int turn = 0; turn < 4; turn++) for (int edge = 0; edge < 3; edge++) {
            fresh();
            x.rule(0, edge); x.rim(0, 444);
            for (int c : new int[] {0, 2, 6, 8}) x.first(c, 0, 333333);
            for (int k = 0; k < told[i].length; k++) x.first(around[(k + turn) % 4], 0, told[i][k]);
            due(x.at(true, 0, 4, 0), want[i]); due(x.at(true, 12, 4, 0), want[i]);
        }
        // of cell 0 of three by three: 6 (n), 1 (e), 3 (s), 2 (w) where the sky is round
        fresh();
        firsts(0, GAP, 10, 200, 3000, 5, 5, 40000, 5, 5); x.rim(0, 100000);
        due(x.at(true, 0, 0, 0), 43210 / 4); x.rule(0, 1); due(x.at(true, 0, 0, 0), 3010 / 2); x.rule(0, 2); due(x.at(true, 0, 0, 0), 203010 / 4);
        // the rim counts even as 0, and where no cell is told
        x.rim(0, 0); due(x.at(true, 0, 0, 0), 3010 / 4); fresh(); x.rule(0, 2); x.rim(3, -3); due(x.at(true, 0, 0, 3), -3); due(x.at(true, 0, 1, 3), -3);
        due(x.at(true, 0, 4, 3), 0); due(x.at(true, 0, 0, 2), 0);
        x.first(1, 3, 0); due(x.at(true, 0, 0, 3), -2); x.rule(0, 0); due(x.at(true, 0, 0, 3), 0);
        // itself beyond an edge is a gap: not told
        fresh();
        x.rule(0, 1); due(x.at(true, 0, 0, 0), 0); x.first(1, 0, 9); due(x.at(true, 0, 0, 0), 9); due(x.at(true, 0, 2, 0), 9); due(x.at(true, 0, 8, 0), 0);
        // two wide, two high: a neighbour stands on two sides and counts twice
        fresh(2, 3);
        firsts(0, GAP, 10, 1, 0, 2); due(x.at(true, 0, 0, 0), 23 / 4); x.first(4, 0, GAP); due(x.at(true, 0, 0, 0), 21 / 3); x.rule(0, 1);
        due(x.at(true, 0, 0, 0), 11 / 2);
        fresh(3, 2);
        firsts(0, GAP, 10, 1, 40); due(x.at(true, 0, 0, 0), 91 / 4); fresh(2, 2); firsts(0, GAP, -3, 8); due(x.at(true, 0, 0, 0), 2); due(x.at(true, 0, 3, 0), 2);
        x.first(2, 0, GAP); due(x.at(true, 0, 0, 0), -3); due(x.at(true, 0, 2, 0), 0);
        // what is filled does not fill, nor does another letter
        fresh();
        x.first(0, 0, 90); x.first(0, 1, 7); due(x.at(true, 0, 1, 0), 90); due(x.at(true, 0, 4, 0), 0); due(x.at(true, 0, 1, 1), 7); due(x.at(true, 0, 1, 2), 0);
        // a told 0 is told
        fresh();
        x.first(1, 0, 0); x.first(3, 0, 9); due(x.at(true, 0, 4, 0), 4); due(x.at(true, 0, 0, 0), 4);
    }

    private static void marked() {
        says("What leans on a FILLED one, through all STEPS, is MARKED, as it is itself.");
        // filled by nothing (0) is filled too; told is not
        for (int c = 0; c < 9; c++) due(x.marked(0, c, 2), 1);
        x.first(4, 2, 0); due(x.marked(0, 4, 2), 0); due(x.marked(12, 4, 2), 0); due(x.marked(12, 5, 2), 1); due(x.marked(0, 4, 1), 1); x.first(4, 2, GAP);
        due(x.marked(0, 4, 2), 1); due(x.marked(12, 4, 2), 1);
        // one gap; each way to lean on it
        String[] lean = {"b=a;", "b=c+a;", "b=a-a;", "b=c.a;", "b=a.c;", "b=c+c-5a/1000~;", "a=a;b=a';", "a=a;b=c.a';"};
        for (String line : lean) {
            fresh();
            for (int c = 0; c < 9; c++) for (int letter = 0; letter < 4; letter++) if (c != 4 || letter != 0) x.first(c, letter, 0);
            plan(line);
            for (int step = 1; step <= 12; step++) { due(x.marked(step, 4, 1), 1); due(x.marked(step, 4, 0), 1); due(x.marked(step, 4, 2), 0); due(x.marked(step, 5, 1), 0); }
            due(x.marked(0, 4, 1), 0);
        }
        // by each side, a step later each time; where nothing leans on it any more, it is gone
        String[] sides = {"a=an;", "a=ae;", "a=as;", "a=aw;"};
        int[] to = {7, 3, 1, 5}, next = {1, 5, 7, 3};
        for (int side = 0; side < 4; side++) {
            fresh();
            for (int c = 0; c < 9; c++) if (c != 4) x.first(c, 0, 1);
            plan(sides[side]);
            due(x.marked(1, to[side], 0), 1); due(x.marked(1, 4, 0), 0); due(x.marked(2, to[side], 0), 0); due(x.marked(2, next[side], 0), 1); due(x.marked(3, 4, 0), 1);
            due(x.marked(12, 4, 0), 1); due(x.marked(11, 4, 0), 0);
            // beyond other edges nothing of it comes back: a rim is told
            for (int edge = 1; edge < 3; edge++) { x.rule(0, edge); due(x.marked(1, to[side], 0), 1); due(x.marked(2, next[side], 0), 0); due(x.marked(2, to[side], 0), 0); due(x.marked(3, 4, 0), 0); }
            // by edge 1 a cell leans on itself
            x.first(4, 0, 1); x.first(next[side], 0, GAP); x.rule(0, 1); due(x.marked(12, next[side], 0), 1); due(x.marked(1, 4, 0), 1); due(x.marked(1, to[side], 0), 0);
            due(x.marked(2, to[side], 0), 1);
            x.rule(0, 2); due(x.marked(1, next[side], 0), 0); due(x.marked(1, 4, 0), 1); due(x.marked(2, 4, 0), 0);
        }
        // with ' of a letter that is made of others: no mark of the step ahead
        fresh();
        for (int c = 0; c < 9; c++) { x.first(c, 1, 0); x.first(c, 2, 0); }
        plan("a=b;c=a';b=a;"); due(x.marked(0, 0, 0), 1); due(x.marked(1, 0, 0), 0); due(x.marked(1, 0, 2), 0); due(x.marked(1, 0, 1), 1); due(x.marked(2, 0, 2), 1);
        due(x.marked(2, 0, 0), 1); due(x.marked(2, 0, 1), 0);
        // VOID or not
        fresh();
        plan("a=b.b;"); x.first(0, 1, MILLION); due(x.marked(1, 0, 0), 0); due(x.marked(1, 1, 0), 1);
    }

    private static void slips() {
        says("SLIPS, 12 at most: a STEP (1 to 12), a CELL, a letter, an amount (-1000000 to 1000000, not 0): added to the NUMBER of that place (with a LINE or without; VOID stays VOID; above 1000000000 in size it is VOID), ahead of all that leans on it; two of one place: one behind the other.");
        for (int i = 1; i <= 12; i++) due(x.slip(i, i % 9, i % 4, i % 2 == 0 ? MILLION : -MILLION), i);
        due(x.slip(1, 0, 0, 1), FULL); due(x.count(4), 12);
        for (int i = 1; i <= 12; i++) { due(x.at(false, i, i % 9, i % 4), i % 2 == 0 ? MILLION : -MILLION); due(x.at(false, i - 1, i % 9, i % 4), 0); }
        due(x.mend(), 11); due(x.slip(12, 8, 3, 1), 12); due(x.slip(1, 0, 0, 1), FULL);
        fresh();
        int[][] wrong = {{0, 0, 0, 1}, {-1, 0, 0, 1}, {13, 0, 0, 1}, {1, -1, 0, 1}, {1, 9, 0, 1}, {1, 0, -1, 1}, {1, 0, 4, 1}, {1, 0, 0, 0}, {1, 0, 0, MILLION + 1}, {1, 0, 0, -MILLION - 1}};
        for (int[] s : wrong) due(x.slip(s[0], s[1], s[2], s[3]), BAD);
        due(x.count(4), 0); due(x.slip(1, 8, 3, MILLION), 1); due(x.slip(12, 0, 0, -MILLION), 2); due(x.slip(12, 0, 0, 1), 3); due(x.slip(1, 8, 3, -1), 4);
        // with a line and without
        fresh();
        plan("a=b;"); all(1, 5); x.slip(2, 3, 0, 100); x.slip(2, 3, 1, 1000);
        due(x.at(false, 2, 3, 0), 105); due(x.at(false, 2, 3, 1), 1005); due(x.at(false, 3, 3, 0), 1005); due(x.at(false, 3, 3, 1), 1005); due(x.at(false, 2, 4, 0), 5);
        due(x.at(false, 1, 3, 1), 5);
        // VOID stays VOID; 1000000000 stands, one more is VOID, on either side
        fresh();
        plan("a=b.c;"); firsts(1, MILLION, -MILLION, MILLION, MILLION, -MILLION, 999999); firsts(2, 1000, 1000, 1001, 1000, 1000, 1000);
        x.slip(1, 0, 0, 1); x.slip(1, 1, 0, -1); x.slip(1, 2, 0, -MILLION); x.slip(1, 3, 0, -1); x.slip(1, 4, 0, 1); x.slip(1, 5, 0, 1000);
        x.first(6, 1, -999999); x.first(6, 2, 1000); x.slip(1, 6, 0, -1000);
        int[] want = {VOID, VOID, VOID, MILLIARD - 1, 1 - MILLIARD, MILLIARD, -MILLIARD};
        for (int c = 0; c < 7; c++) due(x.at(false, 1, c, 0), want[c]);
        // one behind the other: VOID in between stays VOID, and order tells
        x.slip(1, 0, 0, -1); x.slip(1, 3, 0, 1); x.slip(1, 5, 0, 1); x.slip(1, 5, 0, -2); due(x.at(false, 1, 0, 0), VOID); due(x.at(false, 1, 3, 0), MILLIARD);
        due(x.at(false, 1, 5, 0), VOID);
        x.mend(); due(x.at(false, 1, 5, 0), VOID); x.mend(); due(x.at(false, 1, 5, 0), MILLIARD);
        fresh();
        for (int i = 0; i < 12; i++) x.slip(7, 2, 1, MILLION); due(x.at(false, 7, 2, 1), 12 * MILLION); due(x.at(false, 6, 2, 1), 0);
        due(x.at(false, 12, 2, 1), 12 * MILLION);
        // ahead of all that leans on it: at this step those with ', at the next all others
        fresh();
        plan("a=a;b=a'+a;c=b';d=cn;"); for (int letter = 0; letter < 4; letter++) all(letter, 0);
        x.slip(1, 4, 0, 10);
        int[][] made = {{10, 10, 10}, {10, 20, 20}, {10, 20, 20}};
        for (int step = 1; step <= 3; step++) for (int letter = 0; letter < 3; letter++) due(x.at(false, step, 4, letter), made[step - 1][letter]);
        due(x.at(false, 1, 7, 3), 0); due(x.at(false, 2, 7, 3), 10); due(x.at(false, 3, 7, 3), 20); x.slip(1, 4, 1, 5); due(x.at(false, 1, 4, 2), 15);
        due(x.at(false, 1, 4, 0), 10); due(x.at(false, 2, 4, 1), 20);

        says("THE HALL's NUMBERS are by THE PLAN with all SLIPS; the RIGHT ones by THE PLAN alone.");
        plan("a=a+b;"); all(0, 1); all(1, 2);
        for (int step = 0; step <= 12; step++) { due(x.at(false, step, 4, 0), 1 + 2 * step); due(x.at(true, step, 4, 0), 1 + 2 * step); }
        x.slip(3, 4, 0, 50); x.slip(5, 4, 1, 4); x.slip(12, 4, 0, -7);
        for (int step = 0; step <= 12; step++) {
            due(x.at(true, step, 4, 0), 1 + 2 * step); due(x.at(true, step, 4, 1), 2); due(x.sum(true, step, 0), 9 * (1 + 2 * step));
            int more = (step >= 3 ? 50 : 0) + (step > 5 ? 4 * (step - 5) : 0) - (step == 12 ? 7 : 0);
            due(x.at(false, step, 4, 0), 1 + 2 * step + more); due(x.at(false, step, 4, 1), step >= 5 ? 6 : 2); due(x.sum(false, step, 0), 9 * (1 + 2 * step) + more);
        }
    }

    // ---- terms 2: checks

    private static void dueSpread(int i, int n, int many, int last, int heals) {
        due(x.spread(i, n, 0), many); due(x.spread(i, n, 1), last); due(x.spread(i, n, 2), heals);
    }

    private static void spread() {
        says("==== 2 SPREAD from a SLIP: NUMBERS of THE HALL that are otherwise without this SLIP (all others stay): how many, the last STEP with one; it HEALS, if STEP n (told) has none.");
        // without a line it never heals; ahead of its step there is none
        x.slip(12, 0, 0, 1); dueSpread(0, 11, 0, NONE, 1); dueSpread(0, 12, 1, 12, 0); dueSpread(0, 1, 0, NONE, 1);
        fresh(); x.slip(1, 8, 3, -1); for (int n = 1; n <= 12; n++) dueSpread(0, n, n, n, 0);
        // nothing leans on it: one number, healed a step later
        fresh(); plan("a=b;"); x.slip(4, 0, 0, 5); dueSpread(0, 3, 0, NONE, 1); dueSpread(0, 4, 1, 4, 0); dueSpread(0, 5, 1, 4, 1); dueSpread(0, 12, 1, 4, 1);
        // lost by rounding, three steps later
        fresh(); plan("a=a/10;"); all(0, 0); x.slip(1, 0, 0, 999); dueSpread(0, 3, 3, 3, 0); dueSpread(0, 4, 3, 3, 1); dueSpread(0, 12, 3, 3, 1);
        // at the same step by those with ', and to all four sides
        fresh(); plan("a=a;b=a';c=b'-b';"); x.slip(3, 4, 0, 1); dueSpread(0, 3, 2, 3, 0); dueSpread(0, 4, 4, 4, 0);
        fresh(6, 6); plan("a=a+an+ae+as+aw;"); all(0, 0); x.slip(1, 14, 0, 1); dueSpread(0, 1, 1, 1, 0); dueSpread(0, 2, 6, 2, 0); dueSpread(0, 3, 6 + 13, 3, 0);
        fresh(2, 2); plan("a=a+an;b=a;c=b;d=c;"); all(0, 0); x.slip(1, 0, 0, 1); dueSpread(0, 12, 1 + 3 + 5 + 7 + 8 * 8, 12, 0);
        // all others stay: of two that are too small alone, of two that make up for one another, of two that are one too large
        fresh(); plan("a=a/10;"); all(0, 0); x.slip(1, 0, 0, 6); x.slip(1, 0, 0, 6); dueSpread(0, 2, 2, 2, 0); dueSpread(1, 2, 2, 2, 0); x.mend();
        dueSpread(0, 2, 1, 1, 1);
        fresh(); plan("a=b-c;b=d;c=d;"); x.slip(1, 0, 1, 5); x.slip(1, 0, 2, 5); dueSpread(0, 12, 2, 2, 1); dueSpread(1, 12, 2, 2, 1); due(x.at(false, 2, 0, 0), 0);
        fresh(); plan("a=b.c;d=a;"); x.first(0, 1, MILLION); x.first(0, 2, 1000); x.slip(1, 0, 0, 1); x.slip(1, 0, 0, -1); dueSpread(0, 1, 1, 1, 0);
        dueSpread(1, 1, 0, NONE, 1); dueSpread(0, 2, 2, 2, 0);
        // VOID with it and without it is not otherwise; VOID with it alone is
        fresh(); plan("a=b.b;d=a;"); x.first(0, 1, MILLION); x.first(1, 1, 31622); x.first(1, 0, 0); x.slip(2, 0, 0, 7); dueSpread(0, 12, 0, NONE, 1);
        x.slip(2, 1, 1, 1); dueSpread(1, 2, 1, 2, 0); dueSpread(1, 3, 3, 3, 0); due(x.at(false, 3, 1, 0), VOID); dueSpread(1, 4, 6, 4, 0);
        // new at once with each change of the plan, the numbers and the slips
        fresh(); plan("a=a/10;"); all(0, 0); x.slip(1, 0, 0, 9); dueSpread(0, 12, 1, 1, 1); x.first(0, 0, 10); dueSpread(0, 12, 2, 2, 1);
        x.slip(2, 0, 0, 99); dueSpread(0, 12, 4, 4, 1); dueSpread(1, 12, 3, 4, 1); x.mend(); dueSpread(0, 12, 2, 2, 1); x.slip(2, 0, 0, -2); dueSpread(1, 12, 11, 12, 0);
        plan(""); dueSpread(0, 12, 12, 12, 0); dueSpread(1, 12, 11, 12, 0); plan("a=an;"); x.rule(0, 2); dueSpread(0, 12, 3, 3, 1);
        fresh(); x.slip(1, 0, 0, 5); dueSpread(0, 12, 12, 12, 0); x.first(1, 0, 3); dueSpread(0, 12, 12, 12, 0); x.slip(1, 2, 0, 1); dueSpread(0, 12, 12, 12, 0); x.mend(); dueSpread(0, 12, 12, 12, 0);
        // of the cells that there are, not of those of a larger sky ahead
        for (int c = 4; c < 36; c++) { fresh(6, 6); x.slip(1, c, 0, 5); dueSpread(0, 12, 12, 12, 0); x.sky(2, c % 2 + 2); x.slip(2, 0, 0, 1); dueSpread(0, 12, 11, 12, 0); }
        // each of twelve by its number
        fresh(); for (int i = 0; i < 12; i++) x.slip(i + 1, 0, 0, 1); for (int i = 0; i < 12; i++) dueSpread(i, 12, 12 - i, 12, 0);
        due(x.spread(12, 12, 0), NO); x.mend(); due(x.spread(11, 12, 0), NO); due(x.spread(10, 12, 0), 2);
    }

    private static void kept() {
        says("KEPT by form is a letter: its LINE (or none) has no products, no ', no other letters, factors together are the divisor, and EDGES are 0: then the sum over all CELLS would not change but for rounding. (A letter without a LINE is.)");
        String[] kept = {"b=b;", "b=bn;", "b=+1bw;", "b=b+bn+be+bs+bw/5;", "b=999bn+b/1000;", "b=3b-2bs;", "b=-b+2b~;", "b=bn-bs+be;"};
        String[] not = {"b=2b;", "b=b/2;", "b=-b;", "b=b-bn;", "b=b+bn;", "b=b+bn/3;", "b=a;", "b=a+b/2;", "b=b+a-a;", "b=a-a+b;", "b=b.b;", "b=b+b.b-b.b;", "b=bn.bs;", "b=-b/1;", "b=999b/1000;", "b=1b.b/1;"};
        for (String line : kept) { fresh(); due(plan(line), 1); for (int letter = 0; letter < 4; letter++) due(x.kept(letter), 1); }
        for (String line : not) { fresh(); due(plan(line), 1); for (int letter = 0; letter < 4; letter++) due(x.kept(letter), letter == 1 ? 0 : 1); }
        fresh(); plan("a=a;b=a';c=c+a'-a';"); due(x.kept(0), 1); due(x.kept(1), 0); due(x.kept(2), 0); due(x.kept(3), 1);
        // by edges; a letter without a line is by all of them
        fresh(); plan("b=b;");
        for (int edge : new int[] {1, 2, 0}) { x.rule(0, edge); due(x.kept(1), edge == 0 ? 1 : 0); due(x.kept(0), 1); }
        // the sum stays, and with rounding may not
        fresh(); plan("b=3b-2bs;"); firsts(1, 5, -7, 1, 0, 2, 9, 4, 4, -100); for (int step = 0; step <= 8; step++) due(x.sum(true, step, 1), -82);
        x.rule(0, 1); due(x.sum(true, 1, 1), -82 - 2 * (4 + 4 - 100) + 2 * (5 - 7 + 1));
        fresh(); plan("b=b+bn/2;"); firsts(1, 1, 0, 0, 0, 0, 0, 0, 0, 0); due(x.kept(1), 1); due(x.sum(true, 1, 1), 0);
    }

    private static void grows() {
        says("GROWS not: each LINE has no products, and the sizes of factors together are no more than the divisor (of a NAME with ' as of others).");
        due(x.grows(), 1);
        String[] not = {"", "a=a;", "a=-b;", "a=b-c/2;", "a=b+c-d/3;", "a=999b-c/1000;", "a=a/2;", "a=-500a-500a/1000~;", "a=a;b=a';", "a=a;b=a'-a/2;", "a=a;b=b;c=c;d=d;"};
        String[] more = {"a=2a;", "a=-2a;", "a=b-c;", "a=b-b;", "a=b+c-d/2;", "a=999b-2c/1000;", "a=b.c;", "a=b.c/1000;", "a=b+b.b-b.b/1000;", "a=a;b=2a';", "a=a;b=a'-a;", "a=a;b=b;c=c;d=d+d;", "a=2a;b=b;c=c;d=d;"};
        for (String text : not) { fresh(); plan(text); due(x.grows(), 1); x.rule(0, 2); due(x.grows(), 1); }
        for (String text : more) { fresh(); plan(text); due(x.grows(), 0); x.rule(0, 1); due(x.grows(), 0); }
    }

    private static void sums() {
        says("CHECKS of a STEP and a letter, against told sums: of each row y, of each column x (told, -1000000000000 to 1000000000000, or nothing).");
        x.sky(6, 6);
        long edge = 1000000000000L;
        for (int i = 0; i < 6; i++) { due(x.tell(12, 3, false, i, edge), 0); due(x.tell(12, 3, true, i, -edge), 0); }
        due(x.count(6), 12); due(x.fails(), 4095);
        for (long v : new long[] {edge + 1, -edge - 1, UNTOLD - 1, UNTOLD + 1, -UNTOLD, Long.MAX_VALUE, Long.MIN_VALUE, 1L << 40, (1L << 32) * 1000000}) due(x.tell(12, 3, false, 0, v), Math.abs(v) > edge || v == Long.MIN_VALUE ? BAD : 0);
        for (int i = 0; i < 6; i++) due(x.tell(12, 3, false, i, UNTOLD), 0);
        due(x.count(6), 6); due(x.fails(), 63 << 6); for (int i = 0; i < 6; i++) due(x.tell(12, 3, true, i, 0), 0); due(x.fails(), 0);
        for (int w = 2; w <= 6; w++) for (int h = 2; h <= 6; h++) {
            x.sky(w, h); due(x.tell(0, 0, false, h - 1, 0), 0); due(x.tell(0, 0, false, h, 0), BAD); due(x.tell(0, 0, true, w - 1, 0), 0);
            due(x.tell(0, 0, true, w, 0), BAD); due(x.tell(0, 0, true, -1, 0), BAD); due(x.tell(0, 0, false, -1, 0), BAD); due(x.count(6), 2);
        }

        says("FAIL those where THE HALL's sum is another one (VOID counts 0).");
        x.sky(6, 6); for (int c = 0; c < 36; c++) x.first(c, 2, c * c);
        for (int i = 0; i < 6; i++) { long row = 0, column = 0; for (int k = 0; k < 6; k++) { row += (6 * i + k) * (6 * i + k); column += (6 * k + i) * (6 * k + i); } x.tell(5, 2, false, i, row); x.tell(5, 2, true, i, column); }
        due(x.fails(), 0);
        for (int c = 0; c < 36; c++) { x.slip(5, c, 2, 1); due(x.fails(), 1 << (c / 6) | 64 << (c % 6)); x.mend(); }
        // of the told step and letter alone
        x.slip(6, 0, 2, 1); x.slip(5, 0, 1, 1); due(x.fails(), 0); x.slip(1, 0, 2, 1); due(x.fails(), 65);
        fresh(); plan("a=a.a;"); firsts(0, 1, 2, MILLION, 3, -4, 5, 0, 0, 0); tellAll(1, 0, new long[] {5, 50, 0}, new long[] {10, 20, 25}); due(x.fails(), 0);
        x.tell(1, 0, false, 0, VOID + 5); due(x.fails(), 1); x.tell(1, 0, false, 0, 5); x.slip(1, 2, 0, 9); due(x.fails(), 0); x.slip(1, 4, 0, 1);
        due(x.fails(), 2 + 128);
        // sums beyond an int
        fresh(); plan("a=b.c;"); all(1, MILLION); all(2, 1000);
        tellAll(1, 0, new long[] {3000000000L, 3000000000L, 3000000000L - (1L << 32)}, new long[] {3000000000L, 3000000000L, 3000000000L}); due(x.fails(), 4);
    }

    private static int fewest(long[] rows, long[] columns) {
        fresh(columns.length, rows.length);
        all(0, 0); tellAll(0, 0, rows, columns);
        return x.least();
    }
    private static long[] of(long... v) { return v; }

    private static void least() {
        says("LEAST: with D the told less THE HALL's of all rows, all columns (all must be told, and rows together as columns: else NO), the fewest CELLS by changing of which all come right.");
        due(x.least(), NO);
        tellAll(0, 0, of(0, 0, 0), of(0, 0)); due(x.least(), NO); x.tell(0, 0, true, 2, 0); due(x.least(), 0);
        for (int i = 0; i < 6; i++) { x.tell(0, 0, i > 2, i % 3, UNTOLD); due(x.least(), NO); x.tell(0, 0, i > 2, i % 3, 0); due(x.least(), 0); }
        // not together
        due(fewest(of(1, 0), of(0, 0)), NO); due(fewest(of(0, 0), of(-1, 0)), NO); due(fewest(of(5, 5), of(5, 4)), NO); due(fewest(of(5, 5), of(-5, -5)), NO);
        due(fewest(of(1000000000000L, 1000000000000L), of(1000000000000L, 999999999999L)), NO);
        due(fewest(of(1000000000000L, 1000000000000L), of(1000000000000L, 1000000000000L)), 2);
        // none, one, and as many as can be
        due(fewest(of(0, 0), of(0, 0)), 0); due(fewest(of(0, 7), of(7, 0)), 1); due(fewest(of(-7, 0), of(0, -7)), 1); due(fewest(of(7, 7), of(7, 7)), 2);
        due(fewest(of(7, 6), of(5, 8)), 3); due(fewest(of(7, 7), of(14, 0)), 2);
        due(fewest(of(7, -7), of(0, 0)), 2); due(fewest(of(0, 0), of(-7, 7)), 2); due(fewest(of(7, -7), of(7, -7)), 2); due(fewest(of(7, -7), of(3, -3)), 3);
        due(fewest(of(1, 2, 4, 8, 16, 32), of(64, -1, 0, 0, 0, 0)), 7); due(fewest(of(1, 2, 4, 8, 16, 32), of(63, 0, 0, 0, 0, 0)), 6);
        due(fewest(of(1, 2, 4, 8, 16, 32), of(3, 12, 48, 0, 0, 0)), 6);
        due(fewest(of(1, 10, 100, 1000, 10000, 100000), of(3, 30, 300, 3000, 30000, 77778)), 11); due(fewest(of(1, 2, 3, 4, 5, 6), of(1, 2, 3, 4, 5, 6)), 6);
        due(fewest(of(1, 1, 1, 1, 1, 1), of(2, 2, 2, 0, 0, 0)), 6); due(fewest(of(1, 1, 1, 1, 1, 1), of(3, 3, -1, 1, 0, 0)), 7);
        due(fewest(of(1, 1), of(0, 0, 0, 0, 0, 2)), 2); due(fewest(of(2, 0), of(1, 1, 0, 0, 0, 0)), 2); due(fewest(of(6, 0), of(1, 1, 1, 1, 1, 1)), 6);
        due(fewest(of(3, 3), of(1, 1, 1, 1, 1, 1)), 6); due(fewest(of(4, 3), of(1, 1, 1, 1, 1, 2)), 6);
        due(fewest(of(5, 2), of(3, 4, 0, 0, 0, 0)), 3); due(fewest(of(5, 2, 4), of(3, 4, 4)), 4);
        // against the hall's, with its slips, at the told step; VOID counts 0
        fresh(2, 2); firsts(0, 1, 2, 3, 4); tellAll(3, 0, of(3, 7), of(4, 6)); due(x.least(), 0); x.slip(4, 0, 0, 1); due(x.least(), 0); x.slip(3, 0, 0, 1);
        due(x.least(), 1); x.slip(2, 3, 0, 1); due(x.least(), 2); x.slip(1, 3, 0, -2); due(x.least(), 2); x.slip(1, 1, 0, 4); due(x.least(), 3);
        fresh(2, 2); plan("a=a.a;"); firsts(0, MILLION, 2, 3, 0); tellAll(1, 0, of(4, 9), of(9, 4)); due(x.least(), 0); x.tell(1, 0, false, 0, 5);
        x.tell(1, 0, true, 0, 10); due(x.least(), 1);
        // with all trials on a small sky
        Random random = new Random(5);
        for (int turn = 0; turn < 150; turn++) {
            int w = 2 + turn % 3, h = 2 + turn / 3 % 2;
            long[] rows = new long[h], columns = new long[w];
            for (int k = 0; k < 2 + turn % 4; k++) { int y = random.nextInt(h), c = random.nextInt(w), v = random.nextInt(5) - 2; rows[y] += v; columns[c] += v; }
            due(fewest(rows, columns), triedLeast(rows, columns));
        }
    }

    /** Of all sets of cells the smallest: within what its cells tie together rows must lack as much as columns. */
    private static int triedLeast(long[] rows, long[] columns) {
        int w = columns.length, h = rows.length, best = w * h;
        for (int set = 0; set < 1 << (w * h); set++) {
            int[] tie = new int[h + w];
            for (int i = 0; i < tie.length; i++) tie[i] = i;
            for (int c = 0; c < w * h; c++) {
                if ((set >> c & 1) == 0) continue;
                int from = tie[c / w], to = tie[h + c % w];
                for (int i = 0; i < tie.length; i++) if (tie[i] == from) tie[i] = to;
            }
            long[] lack = new long[h + w];
            for (int y = 0; y < h; y++) lack[tie[y]] += rows[y];
            for (int c = 0; c < w; c++) lack[tie[h + c]] -= columns[c];
            boolean right = true;
            for (long l : lack) right &= l == 0;
            if (right) best = Math.min(best, Integer.bitCount(set));
        }
        return best;
    }

    private static void second() {
        says("A SECOND reckoner at a CELL: each letter MADE anew from what THE HALL has: letters, as bits, that are otherwise.");
        due(x.second(1, 0), 0); due(x.second(12, 8), 0);
        plan("a=a+b;b=a'+b;c=b'.c;"); for (int letter = 0; letter < 4; letter++) all(letter, letter + 1);
        // each letter's slip is seen at its own place and step, not where others lean on it
        for (int letter = 0; letter < 4; letter++) {
            x.slip(4, 4, letter, 7);
            due(x.second(4, 4), 1 << letter); due(x.second(5, 4), 0); due(x.second(3, 4), 0); due(x.second(4, 3), 0); due(x.second(4, 5), 0); due(x.second(12, 4), 0);
            x.mend();
        }
        for (int letter = 0; letter < 4; letter++) x.slip(4, 4, letter, 7);
        due(x.second(4, 4), 15); x.slip(4, 4, 3, -7); due(x.second(4, 4), 7);
        // steps 1 and 12, the first cell and the last
        x.slip(1, 0, 0, 1); x.slip(12, 8, 3, 1); due(x.second(1, 0), 1); due(x.second(12, 8), 8);
        // VOID: made VOID anew it is not otherwise; made a number anew it is
        fresh(); plan("a=b.b;b=b;"); x.first(0, 1, MILLION); x.first(1, 1, 31622); x.slip(1, 0, 0, 5); due(x.second(1, 0), 0); x.slip(1, 1, 0, MILLION);
        due(x.at(false, 1, 1, 0), VOID); due(x.second(1, 1), 1); x.slip(1, 0, 1, 5); due(x.second(1, 0), 2); due(x.second(2, 0), 0);
    }

    private static void judged() {
        says("JUDGED is a row of W H NUMBERS for a letter and STEP (put one by one): the first CELL where it is not what its LINE makes of THE HALL's.");
        x.sky(6, 6); for (int c = 0; c < 36; c++) { x.first(c, 1, c); x.put(c, 2 * c + 1); }
        plan("a=2b+c;b=b;"); all(2, 1);
        due(x.judge(1, 0), NONE); due(x.judge(12, 0), NONE); due(x.judge(1, 1), 0);
        for (int c = 35; c >= 0; c--) { x.put(c, 2 * c); due(x.judge(1, 0), c); }
        due(x.judge(1, 0), 0); x.put(0, 1); due(x.judge(1, 0), 1);
        // what the line makes, not what the hall has there: its own slip does not count, one ahead does
        fresh(2, 2); plan("a=a+b;c=a';"); all(0, 1); all(1, 1); all(2, 0); all(3, 9); for (int c = 0; c < 4; c++) x.put(c, 3);
        due(x.judge(2, 0), NONE); x.slip(2, 2, 0, 5); due(x.judge(2, 0), NONE); due(x.judge(2, 2), 2); x.put(2, 8); due(x.judge(2, 0), 2); due(x.judge(2, 2), NONE);
        x.put(2, 3); x.slip(1, 1, 1, 4); due(x.judge(2, 0), 1); x.slip(1, 0, 0, 1); due(x.judge(2, 0), 0);
        // a letter without a line is what it was; VOID is no number that is put
        for (int c = 0; c < 4; c++) x.put(c, 9); due(x.judge(1, 3), NONE); x.slip(1, 3, 3, 1); due(x.judge(1, 3), NONE); due(x.judge(2, 3), 3);
        fresh(2, 2); plan("a=b.b;"); firsts(1, 0, 0, MILLION, 0); due(x.judge(1, 0), 2); x.put(2, MILLIARD); due(x.judge(1, 0), 2); x.put(2, -MILLIARD);
        due(x.judge(1, 0), 2); due(x.put(2, VOID), BAD_NUMBER); due(x.judge(1, 0), 2); x.first(2, 1, 0); x.put(2, 0); due(x.judge(1, 0), NONE);
    }

    // ---- terms 3: people

    private static void dueEnds(int step, int... want) { for (int c = 0; c < want.length; c++) due(x.when(step, c), want[c]); }

    private static void people() {
        says("==== 3 PEOPLE 0 to 5 have a PACE (1 to 20 minutes for a CELL's STEP; 5 at first); each CELL is of one (0 at first).");
        for (int p = 0; p < 6; p++) { due(x.pace(p, 20), 5); due(x.pace(p, 21), BAD); due(x.pace(p, 0), BAD); due(x.pace(p, 1), 20); due(x.pace(p, 5), 1); }
        due(x.pace(-1, 5), BAD); due(x.pace(6, 5), BAD);
        for (int c = 0; c < 9; c++) { due(x.give(c, -1), BAD); due(x.give(c, 6), BAD); due(x.give(c, 5), 0); due(x.give(c, 0), 5); }
        due(x.when(1, -1), 45); x.pace(0, 1); due(x.when(12, -1), 108); x.pace(0, 20); due(x.when(12, -1), 2160);
        for (int c = 0; c < 6; c++) x.give(c, c); for (int p = 0; p < 6; p++) x.pace(p, p + 1); dueEnds(1, 1, 2, 3, 4, 5, 6, 2, 3, 4);

        says("NOTES WALK 0 to 9 minutes (1 at first) between CELLS of unlike people.");
        due(x.rule(1, 1), 1); due(x.rule(1, 9), 1); due(x.rule(1, 10), BAD); due(x.rule(1, -1), BAD); due(x.rule(1, 0), 9);
        // person 0 does the upper two cells, person 1, who is quick, the lower two
        x.sky(2, 2); x.give(2, 1); x.give(3, 1); x.pace(1, 1);
        dueEnds(1, 5, 10, 1, 2); dueEnds(2, 15, 20, 6, 11);
        x.rule(1, 1); dueEnds(1, 5, 10, 1, 2); dueEnds(2, 15, 20, 7, 12);
        x.rule(1, 9); dueEnds(1, 5, 10, 1, 2); dueEnds(2, 15, 20, 15, 20); dueEnds(3, 29, 34, 25, 30);
        // between cells of one person they don't walk, be they one's own or a neighbour's
        for (int c = 0; c < 4; c++) x.give(c, 3); dueEnds(1, 5, 10, 15, 20); dueEnds(2, 25, 30, 35, 40); dueEnds(12, 225, 230, 235, 240);

        says("A person does its CELLS STEP by STEP, in a STEP by numbers; a CELL's STEP is begun when the person is free and what was ended at STEP - 1 at the CELL's four neighbours (by the EDGE) has come.");
        // the lower cell is waited for, and the higher one of the same person with it
        x.sky(3, 2); x.pace(0, 1); x.pace(1, 20); x.give(1, 1); dueEnds(1, 1, 20, 2, 3, 4, 5); dueEnds(2, 22, 40, 23, 24, 25, 26);
        // given the other way round it is the person of the lower number that does not matter
        x.give(1, 0); x.give(0, 1); dueEnds(1, 20, 1, 2, 3, 4, 5); dueEnds(2, 40, 22, 23, 24, 25, 26);
        // each of the four sides and no other cell: the slow one is waited for beside it alone
        for (int me = 0; me < 9; me++) for (int slow = 0; slow < 9; slow++) {
            if (me == slow) continue;
            fresh(); x.rule(0, 2); x.pace(0, 1); x.pace(1, 20); x.pace(2, 1); x.give(slow, 1); x.give(me, 2);
            boolean beside = Math.abs(me % 3 - slow % 3) + Math.abs(me / 3 - slow / 3) == 1;
            int notes = 0;
            for (int c = 0; c < 9; c++) if (Math.abs(me % 3 - c % 3) + Math.abs(me / 3 - c / 3) == 1) notes = Math.max(notes, x.when(1, c) + 1);
            due(x.when(1, me), 1); due(notes > 20 ? 1 : 0, beside ? 1 : 0); due(x.when(2, me), notes + 1);
        }
        // by the edge: the other side, the cell itself, nobody
        fresh(4, 2); x.pace(0, 1); x.pace(1, 1); x.pace(2, 20); x.give(0, 1); x.give(3, 2);
        dueEnds(1, 1, 1, 2, 20, 3, 4, 5, 6); due(x.when(2, 0), 22); x.rule(0, 1); due(x.when(2, 0), 5); x.rule(0, 2); due(x.when(2, 0), 5); x.rule(0, 0);
        due(x.when(2, 0), 22);
        fresh(2, 4); x.pace(0, 1); x.pace(1, 1); x.pace(2, 20); x.give(0, 1); x.give(6, 2);
        dueEnds(1, 1, 1, 2, 3, 4, 5, 20, 6); due(x.when(2, 0), 22); x.rule(0, 1); due(x.when(2, 0), 4); x.rule(0, 2); due(x.when(2, 0), 4);

        says("STEP 0 is there, wherever it is wanted, at minute 0.");
        x.rule(1, 9); for (int c = 0; c < 6; c++) x.give(c, c); for (int c = 0; c < 9; c++) due(x.when(0, c), 0);
        due(x.when(0, -1), 0); for (int c = 0; c < 6; c++) due(x.when(1, c), 5); due(x.known(8, 0), 0);

        says("ENDED: begun and PACE.");
        for (int v = 1; v <= 20; v++) { x.pace(0, v); due(x.when(1, 0), v); due(x.when(1, 8), 9 * v); due(x.when(2, 0), 10 * v); due(x.when(12, 8), 108 * v); }
    }

    private static void last() {
        says("THE LAST of a STEP: the greatest minute; whom all wait for: the CELL of it, the lowest of several.");
        x.sky(2, 2); for (int c = 0; c < 4; c++) x.give(c, c);
        // all alike, then each one slower than the others, then two of them
        due(x.when(1, -1), 5); due(x.slowest(1), 0);
        for (int c = 0; c < 4; c++) { x.pace(c, 6); due(x.when(1, -1), 6); due(x.slowest(1), c); for (int d = c + 1; d < 4; d++) { x.pace(d, 6); due(x.slowest(1), c); x.pace(d, 7); due(x.slowest(1), d); due(x.when(1, -1), 7); x.pace(d, 5); } x.pace(c, 5); }
        // not the one that is last in number or in a later step
        x.rule(1, 0); x.pace(3, 1); x.pace(0, 9); due(x.slowest(1), 0); due(x.when(2, -1), 18); due(x.slowest(2), 0); x.pace(0, 5);
        x.sky(6, 6); due(x.slowest(1), 35); due(x.slowest(12), 35); due(x.when(12, -1), 5 * 36 * 12); due(x.when(12, -1), x.when(12, 35)); x.give(35, 1);
        due(x.slowest(1), 34); due(x.when(1, -1), 175);
    }

    private static void dueShare(int q, int n, int last, int... whose) {
        due(x.given(q, n, -1), last);
        for (int c = 0; c < whose.length; c++) due(x.given(q, n, c), whose[c]);
    }

    private static void given() {
        says("GIVEN are CELLS to people 0 to q - 1 (q 1 to 3; 9 CELLS at most, else NO) so that THE LAST of STEP n is least; of several by the lower people, from CELL 0 on.");
        due(x.given(0, 1, -1), BAD); due(x.given(4, 1, -1), BAD);
        for (int w = 2; w <= 6; w++) for (int h = 2; h <= 6; h++) { x.sky(w, h); due(x.given(1, 1, -1), w * h <= 9 ? 5 * w * h : NO); due(x.given(1, 1, 0), w * h <= 9 ? 0 : NO); due(x.given(1, 1, w * h), BAD); }
        x.sky(2, 2); dueShare(1, 1, 20, 0, 0, 0, 0); dueShare(2, 1, 10, 0, 0, 1, 1); dueShare(3, 1, 10, 0, 0, 1, 1);
        // all that end alike: nothing but the lower people from cell 0 on
        dueShare(3, 0, 0, 0, 0, 0, 0); x.sky(3, 3); dueShare(3, 1, 15, 0, 0, 0, 1, 1, 1, 2, 2, 2); dueShare(2, 1, 25, 0, 0, 0, 0, 0, 1, 1, 1, 1);
        // a slow one gets few, a quick one many; one that is too slow none
        x.pace(0, 10); dueShare(2, 1, 30, 0, 0, 0, 1, 1, 1, 1, 1, 1); x.pace(0, 20); x.pace(1, 1); dueShare(2, 1, 9, 1, 1, 1, 1, 1, 1, 1, 1, 1); x.pace(1, 3);
        dueShare(2, 1, 24, 0, 1, 1, 1, 1, 1, 1, 1, 1);
        // the third one's pace does not count for two; whose the cells are now does not count and stays
        x.pace(2, 1); dueShare(2, 1, 24, 0, 1, 1, 1, 1, 1, 1, 1, 1); x.give(0, 4); x.pace(4, 1); dueShare(2, 1, 24, 0, 1, 1, 1, 1, 1, 1, 1, 1); due(x.give(0, 0), 4);
        dueShare(3, 1, 7, 1, 1, 2, 2, 2, 2, 2, 2, 2);
        // notes that walk long: shared at step 1, by one alone at step 2
        fresh(2, 2); x.pace(0, 1); x.pace(1, 1); x.rule(1, 9); dueShare(2, 1, 2, 0, 0, 1, 1); dueShare(2, 2, 8, 0, 0, 0, 0); x.rule(1, 0); dueShare(2, 2, 4, 0, 0, 1, 1);
        // against all ways to give, each tried by give and when
        Random random = new Random(3);
        for (int turn = 0; turn < 240; turn++) {
            int q = 1 + turn % 3, w = q < 3 && turn % 2 == 0 ? 3 : 2, n = turn % 4 == 0 ? 12 : 1 + random.nextInt(5);
            triedGiven(w, q, n, new int[] {1 + random.nextInt(turn % 5 == 0 ? 20 : 4), 1 + random.nextInt(4), 1 + random.nextInt(6)}, random.nextInt(turn % 2 == 0 ? 3 : 10), random.nextInt(3));
        }
        // new at once with edge, walk, pace and sky
        fresh(2, 2); x.pace(0, 1); x.pace(1, 1);
        x.rule(1, 1); x.pace(0, 2); due(x.given(2, 1, -1), 3); x.pace(0, 1); due(x.given(2, 1, -1), 2); x.sky(2, 3); due(x.given(2, 1, -1), 3);
    }

    /** On w by two cells: what given answers is what the best of all ways to give makes, the first of several. */
    private static void triedGiven(int w, int q, int n, int[] paces, int walk, int edge) {
        int ways = (int) Math.round(Math.pow(q, 2 * w)), best = Integer.MAX_VALUE, bestWay = 0;
        for (int turn = 0; turn < 2; turn++) {
            fresh(w, 2);
            for (int p = 0; p < 3; p++) x.pace(p, paces[p]);
            x.rule(1, walk); x.rule(0, edge);
            for (int way = 0; way < ways && turn == 0; way++) {
                for (int c = 2 * w - 1, rest = way; c >= 0; c--, rest /= q) x.give(c, rest % q);
                int last = x.when(n, -1);
                if (last < best) { best = last; bestWay = way; }
            }
        }
        due(x.given(q, n, -1), best);
        for (int c = 2 * w - 1, rest = bestWay; c >= 0; c--, rest /= q) due(x.given(q, n, c), rest % q);
    }

    private static void known() {
        says("KNOWN at a CELL as of a minute: STEPS (of its own) that are ended by then.");
        for (int c : new int[] {0, 4, 8}) for (int step = 1; step <= 12; step++) { int end = 45 * (step - 1) + 5 * (c + 1); due(x.when(step, c), end); due(x.known(c, end), step); due(x.known(c, end - 1), step - 1); due(x.known(c, end + 1), step); }
        fresh(); due(x.known(0, 0), 0); due(x.known(0, 4), 0); due(x.known(0, 100000), 12); due(x.known(0, 100001), BAD); due(x.known(0, -1), BAD);
        // of its own, not of the others; the slowest hall of all
        x.give(8, 1); x.pace(1, 1); due(x.known(8, 1), 1); due(x.known(7, 1), 0); x.sky(6, 6); x.pace(0, 20); due(x.when(12, 35), 8640); due(x.known(35, 8639), 11);
        due(x.known(35, 8640), 12); due(x.known(35, 100000), 12);
    }

    private static void coarse() {
        says("COARSE (W, H even): CELLS of four, FIRST NUMBERS the mean of the four, rounded down; by THE PLAN (EDGES alike) to STEP n: how many are off the mean of the four RIGHT ones at STEP n by more than a told difference (VOID: off).");
        for (int w = 2; w <= 6; w++) for (int h = 2; h <= 6; h++) { x.sky(w, h); due(x.coarse(1, 0, 0), w % 2 == 0 && h % 2 == 0 ? 0 : NO); }
        // the mean rounded down, above 0 and below: -a tells it from rounding up
        fresh(2, 2); plan("a=-a;"); int[][] four = {{1, 2, 2, 2}, {-1, -2, -2, -2}, {0, 0, 0, 1}, {0, 0, 0, -1}, {1, 1, 1, 1}};
        int[] off = {1, 1, 1, 1, 0};
        for (int i = 0; i < four.length; i++) { firsts(0, four[i]); due(x.coarse(1, 0, 0), off[i]); due(x.coarse(1, 0, 1), 0); due(x.coarse(2, 0, 0), 0); }
        // one cell of four beside itself, by each edge
        fresh(2, 2); plan("a=an;"); firsts(0, 1, 2, 3, 4); x.rim(0, 100);
        due(x.coarse(1, 0, 0), 0); x.rule(0, 1); due(x.coarse(1, 0, 0), 1); due(x.coarse(1, 0, 1), 0); x.rule(0, 2); due(x.coarse(1, 0, 49), 1);
        due(x.coarse(1, 0, 50), 0); due(x.coarse(2, 0, 0), 0);
        // two cells of four, one above the other: 3 and 25 beside 9 and 18, behind one step
        fresh(2, 4); plan("a=as;"); firsts(0, 1, 2, 3, 6, 10, 20, 30, 40); due(x.coarse(1, 0, 16), 0); due(x.coarse(1, 0, 15), 1); due(x.coarse(1, 0, 14), 2);
        fresh(4, 2); plan("a=ae;"); firsts(0, 1, 3, 10, 30, 2, 6, 20, 40); due(x.coarse(1, 0, 16), 0); due(x.coarse(1, 0, 15), 1); due(x.coarse(1, 0, 14), 2);
        // four and nine cells of four: each holds one number four times
        for (int side = 4; side <= 6; side += 2) {
            fresh(side, side); for (int c = 0; c < side * side; c++) x.first(c, 0, c % side / 2 * 100 + c / side / 2 * 1000);
            due(x.coarse(12, 0, 0), 0);
            plan("a=ae;"); int columns = side / 2 - 1; due(x.coarse(1, 0, 0), side * side / 4); due(x.coarse(1, 0, 49), side * side / 4);
            due(x.coarse(1, 0, 50), side == 4 ? 0 : side / 2); due(x.coarse(1, 0, 50 * columns), 0);
            plan("a=as;"); due(x.coarse(1, 0, 499), side * side / 4); due(x.coarse(1, 0, 500), side == 4 ? 0 : side / 2); due(x.coarse(1, 0, 500 * columns), 0);
        }
        // one letter among others; all lines work on the small sky, those with ' and products too
        fresh(2, 2); plan("b=c;a=b'.d;"); all(2, 3); all(3, 4); due(x.coarse(1, 0, 0), 0); firsts(3, 4, 4, 4, 8); due(x.coarse(1, 0, 0), 0); firsts(2, 3, 3, 3, 7);
        due(x.coarse(1, 0, 2), 1); due(x.coarse(1, 0, 3), 0); due(x.coarse(1, 1, 0), 0); due(x.coarse(1, 2, 0), 0); due(x.coarse(1, 3, 0), 0);
        // slips are no matter, gaps are filled ahead
        fresh(2, 2); plan("a=a;"); firsts(0, 4, 8); due(x.at(true, 0, 3, 0), 8); due(x.at(true, 0, 2, 0), 4); plan("a=-a;"); due(x.coarse(1, 0, 0), 0); x.first(1, 0, 9);
        due(x.coarse(1, 0, 0), 1); x.slip(1, 0, 0, 5); due(x.coarse(1, 0, 0), 1); due(x.coarse(1, 0, 1), 0);
        fresh(2, 2); plan("a=-a;"); firsts(0, 4, 9, 4, 9); for (int c = 0; c < 4; c++) x.slip(1, c, 0, 500); due(x.coarse(1, 0, 1), 0); due(x.coarse(1, 0, 0), 1);
        // VOID: one of the four, the small one, both; even where 2000000000 would make the mean right
        fresh(2, 2); plan("a=b.c;"); all(1, MILLION); firsts(2, 2000, 0, 0, 0); due(x.at(true, 1, 0, 0), VOID); due(x.coarse(1, 0, 0), 1);
        due(x.coarse(1, 0, MILLION), 1);
        firsts(1, MILLION, 0, 0, 0); firsts(2, 0, MILLION, 0, 0); due(x.at(true, 1, 0, 0), 0); due(x.coarse(1, 0, MILLION), 1);
        all(2, MILLION); all(1, MILLION); due(x.coarse(1, 0, MILLION), 1); due(x.coarse(12, 0, 0), 1);
        // a difference of the widest
        fresh(2, 2); plan("a=a.b;"); all(0, 2000); firsts(1, 0, 0, 0, 2000); due(x.coarse(1, 0, 0), 0); firsts(0, 0, 0, 0, 4000); due(x.coarse(1, 0, MILLION), 1);
        due(x.coarse(1, 0, 999999), 1); firsts(0, 0, 0, 0, 2000); due(x.coarse(1, 0, 749999), 1); due(x.coarse(1, 0, 750000), 0);
    }

    // ---- the last lines of the terms

    /** All that can be asked of an object, and at last what only a change answers. */
    private static String seen(ForecastHall o) {
        StringBuilder s = new StringBuilder();
        for (int what = 0; what < 7; what++) s.append(o.count(what)).append(' ');
        int cells = o.count(0);
        s.append(o.fault()).append(' ').append(o.grows()).append(' ').append(o.fails()).append(' ').append(o.least()).append(' ');
        for (int letter = 0; letter < 4; letter++) for (int what = 0; what < 5; what++) s.append(o.line(letter, what)).append(' ');
        for (int letter = 0; letter < 4; letter++) s.append(o.kept(letter)).append(' ').append(o.judge(2, letter)).append(' ').append(o.coarse(3, letter, 2)).append(' ').append(o.sum(true, 12, letter)).append(' ');
        for (int c = 0; c < cells && c < 9; c++) for (int letter = 0; letter < 4; letter++) s.append(o.at(false, 3, c, letter)).append(' ').append(o.at(true, 3, c, letter)).append(' ').append(o.marked(1, c, letter)).append(' ');
        for (int c = 0; c < cells && c < 9; c++) s.append(o.when(3, c)).append(' ').append(o.known(c, 30)).append(' ').append(o.second(1, c)).append(' ').append(o.given(2, 2, c)).append(' ');
        for (int i = 0; i < 13; i++) s.append(o.spread(i, 12, 0)).append(' ');
        s.append(o.slowest(2)).append(' ').append(o.rule(1, 5)).append(' ');
        for (int p = 0; p < 6; p++) s.append(o.pace(p, 5)).append(' ');
        for (int c = 0; c < cells && c < 9; c++) s.append(o.put(c, 0)).append(' ').append(o.give(c, 0)).append(' ');
        for (int turn = 0; turn < 3; turn++) {
            for (int c = 0; c < cells && c < 9; c++) for (int letter = 0; letter < 4; letter++) { int was = o.first(c, letter, 0); s.append(was).append(' '); }
            for (int letter = 0; letter < 4; letter++) s.append(o.rim(letter, 0)).append(' ');
            s.append(o.rule(0, 0)).append(' ').append(o.mend()).append(' ').append(o.mend()).append(' ').append(o.back()).append(' ');
        }
        return s.append(o.plan()).append(' ').append(o.count(2)).append(' ').append(o.wipe()).toString();
    }

    /** Eight cells with something of all that there is; text, slips and kept ones are full. */
    private static ForecastHall full() {
        ForecastHall o = new ForecastHall();
        o.sky(2, 4); writeAll(o, "a=a+an-b/3~;b=b+c;d=b'.c;"); o.plan(); o.wipe(); writeAll(o, "b=b;" + times("x", 156));
        for (int c = 0; c < 8; c++) if (c != 5) o.first(c, c % 4, 7 * c - 20);
        o.rule(0, 2); o.rule(1, 3); o.rim(0, 4); o.rim(3, -9);
        for (int i = 0; i < 6; i++) o.slip(1 + i % 3, i, i % 4, 3 + i);
        o.keep(); for (int i = 0; i < 6; i++) o.slip(1, 7 - i, 1, 2); o.first(1, 1, 99); o.rim(1, 6); o.keep(); o.rule(0, 1);
        for (int y = 0; y < 4; y++) o.tell(2, 1, false, y, y); o.tell(2, 1, true, 0, 2); o.tell(2, 1, true, 1, 4);
        for (int c = 0; c < 8; c++) { o.put(c, c * c); o.give(c, c % 3); } o.pace(1, 2); o.pace(2, 8); o.pace(5, 19);
        return o;
    }

    /** Ten cells and little else. */
    private static ForecastHall bare() {
        ForecastHall o = new ForecastHall();
        o.sky(2, 5); o.first(3, 1, 8); o.put(2, 5); o.give(9, 4); writeAll(o, "a=a"); o.tell(3, 2, true, 1, UNTOLD);
        return o;
    }

    private interface Call { long on(ForecastHall o, int[] v); }

    /** A refused call answers as is due, twice, and nothing that can be seen is otherwise than without it. */
    private static void dueRefused(String call, boolean of, ToLongFunction<ForecastHall> refused, long want) {
        ForecastHall one = of ? full() : bare(), other = of ? full() : bare();
        due(refused.applyAsLong(one), want); due(refused.applyAsLong(one), want);
        String is = seen(one), was = seen(other);
        if (is.equals(was)) { passed++; return; }
        failed++;
        System.out.println(call + " changes what is seen:\n" + was + "\n" + is);
    }
    private static void refuses(String call, long want, Call refused, int[][] wrong) {
        for (int[] v : wrong) for (boolean of : new boolean[] {true, false}) dueRefused(call + " " + Arrays.toString(v), of, o -> refused.on(o, v), want);
    }

    private static void refused() {
        says("BAD: a number is none that is told. NO: not as things stand. FULL. Of several the first; nothing changes then. VOID is told as 2000000000.");
        due(ForecastHall.BAD, BAD); due(ForecastHall.NO, NO); due(ForecastHall.FULL, FULL); due(ForecastHall.NONE, NONE); due(ForecastHall.VOID, VOID);
        plan("a=b.b;"); x.first(0, 1, MILLION); due(x.at(true, 1, 0, 0), 2000000000);
        // BAD stands ahead of FULL, of NO and of NONE: in the full hall and in the bare one
        refuses("sky", BAD, (o, v) -> o.sky(v[0], v[1]), new int[][] {{1, 4}, {7, 2}, {2, 1}, {2, 7}, {0, 0}, {-2, -2}});
        refuses("rule", BAD, (o, v) -> o.rule(v[0], v[1]), new int[][] {{0, -1}, {0, 3}, {1, -1}, {1, 10}, {-1, 1}, {2, 1}});
        refuses("rim", BAD_FIRST, (o, v) -> o.rim(v[0], v[1]), new int[][] {{-1, 0}, {4, 0}, {0, 1000001}, {0, -1000001}});
        refuses("write", BAD, (o, v) -> o.write(v[0], 0x613d623b633d643bL), new int[][] {{0}, {9}, {-1}, {Integer.MIN_VALUE}, {Integer.MAX_VALUE}});
        refuses("line", BAD, (o, v) -> o.line(v[0], v[1]), new int[][] {{-1, 0}, {4, 0}, {0, -1}, {0, 5}, {2, 5}});
        int[][] cellsOfSteps = {{-1, 0, 0}, {13, 0, 0}, {0, -1, 0}, {0, 10, 0}, {0, 0, -1}, {0, 0, 4}};
        refuses("first", BAD_FIRST, (o, v) -> o.first(v[0], v[1], v[2]), new int[][] {{-1, 0, 0}, {10, 0, 0}, {0, -1, 0}, {0, 4, 0}, {0, 0, 1000001}, {0, 0, -1000001}, {0, 0, 1999999}, {0, 0, -2000000}});
        refuses("at", BAD_NUMBER, (o, v) -> o.at(false, v[0], v[1], v[2]), cellsOfSteps);
        refuses("at, right", BAD_NUMBER, (o, v) -> o.at(true, v[0], v[1], v[2]), cellsOfSteps);
        refuses("marked", BAD, (o, v) -> o.marked(v[0], v[1], v[2]), cellsOfSteps);
        refuses("sum", BAD_SUM, (o, v) -> o.sum(v[0] == 0, v[0], v[1]), new int[][] {{-1, 0}, {13, 0}, {0, -1}, {0, 4}});
        refuses("slip", BAD, (o, v) -> o.slip(v[0], v[1], v[2], v[3]), new int[][] {{0, 0, 0, 1}, {13, 0, 0, 1}, {1, -1, 0, 1}, {1, 10, 0, 1}, {1, 0, -1, 1}, {1, 0, 4, 1}, {1, 0, 0, 0}, {1, 0, 0, 1000001}, {1, 0, 0, -1000001}});
        refuses("spread", BAD, (o, v) -> o.spread(v[0], v[1], v[2]), new int[][] {{-1, 1, 0}, {0, 0, 0}, {0, 13, 0}, {0, 1, -1}, {0, 1, 3}, {12, 13, 0}, {99, 1, 3}});
        refuses("kept", BAD, (o, v) -> o.kept(v[0]), new int[][] {{-1}, {4}, {Integer.MIN_VALUE}, {Integer.MAX_VALUE}});
        int[][] sumsOf = {{-1, 1, 0}, {13, 1, 0}, {2, -1, 0}, {2, 4, 0}, {2, 1, -1}, {2, 1, 6}, {3, 2, -1}, {0, 0, 99}};
        refuses("tell of a row", BAD, (o, v) -> o.tell(v[0], v[1], false, v[2], 5), sumsOf);
        refuses("tell of a column", BAD, (o, v) -> o.tell(v[0], v[1], true, v[2], UNTOLD), sumsOf);
        for (long sum : new long[] {1000000000001L, -1000000000001L, UNTOLD + 1, UNTOLD - 1, -UNTOLD, Long.MIN_VALUE, Long.MAX_VALUE}) {
            refuses("tell " + sum, BAD, (o, v) -> o.tell(v[0], v[1], v[2] == 1, 0, sum), new int[][] {{2, 1, 0}, {3, 1, 1}, {2, 2, 1}});
        }
        refuses("second", BAD, (o, v) -> o.second(v[0], v[1]), new int[][] {{0, 0}, {13, 0}, {1, -1}, {1, 10}});
        refuses("put", BAD_NUMBER, (o, v) -> o.put(v[0], v[1]), new int[][] {{-1, 0}, {10, 0}, {0, 1000000001}, {0, -1000000001}, {0, VOID}});
        refuses("judge", BAD, (o, v) -> o.judge(v[0], v[1]), new int[][] {{0, 0}, {13, 0}, {1, -1}, {1, 4}});
        refuses("pace", BAD, (o, v) -> o.pace(v[0], v[1]), new int[][] {{-1, 5}, {6, 5}, {0, 0}, {0, 21}, {3, -7}});
        refuses("give", BAD, (o, v) -> o.give(v[0], v[1]), new int[][] {{-1, 1}, {10, 1}, {1, -1}, {1, 6}});
        refuses("when", BAD, (o, v) -> o.when(v[0], v[1]), new int[][] {{-1, 0}, {13, 0}, {1, -2}, {1, 10}, {13, -1}});
        refuses("slowest", BAD, (o, v) -> o.slowest(v[0]), new int[][] {{0}, {-1}, {13}});
        refuses("given", BAD, (o, v) -> o.given(v[0], v[1], v[2]), new int[][] {{0, 1, 0}, {4, 1, 0}, {1, -1, 0}, {1, 13, 0}, {1, 1, -2}, {1, 1, 10}});
        refuses("known", BAD, (o, v) -> o.known(v[0], v[1]), new int[][] {{-1, 0}, {10, 0}, {0, -1}, {0, 100001}});
        refuses("coarse", BAD, (o, v) -> o.coarse(v[0], v[1], v[2]), new int[][] {{0, 0, 0}, {13, 0, 0}, {1, -1, 0}, {1, 4, 0}, {1, 0, -1}, {1, 0, 1000001}});
        refuses("count", BAD, (o, v) -> o.count(v[0]), new int[][] {{-1}, {7}, {99}});
        refuses("plan", NO, (o, v) -> o.plan(), new int[][] {{}});
        refuses("spread of none", NO, (o, v) -> o.spread(v[0], 12, 2), new int[][] {{12}, {99}});
        dueRefused("write", true, o -> o.write(1, 0), FULL); dueRefused("write", true, o -> o.write(8, -1), FULL);
        dueRefused("slip", true, o -> o.slip(1, 0, 0, 1), FULL); dueRefused("slip", true, o -> o.slip(12, 7, 3, -1000000), FULL);
        dueRefused("keep", true, o -> o.keep(), FULL);
        dueRefused("mend", false, o -> o.mend(), NO); dueRefused("back", false, o -> o.back(), NO); dueRefused("fails", false, o -> o.fails(), NO);
        dueRefused("least", false, o -> o.least(), NO); dueRefused("spread", false, o -> o.spread(0, 1, 0), NO);
        dueRefused("given", false, o -> o.given(1, 0, -1), NO); dueRefused("coarse", false, o -> o.coarse(1, 0, 0), NO);
        dueRefused("line", false, o -> o.line(0, 0), NONE);
    }

    private static void interfaceSays() throws IOException {
        String source = Files.readString(Path.of("src/main/java/ForecastHall.java"));
        String[] parts = {"plans", "numbers", "checks", "people"};
        String[][] of = {{"write", "wipe", "fault", "plan", "line"}, {"first", "at", "marked", "sum", "slip", "mend", "spread", "kept", "grows"}, {"tell", "fails", "least", "second", "put", "judge"}, {"pace", "give", "when", "slowest", "given", "known", "coarse", "keep", "back", "count"}};
        for (int i = 0; i < parts.length; i++) {
            says("Ahead of the calls `" + String.join("`, `", of[i]) + "` the interface says: ---- " + parts[i] + ".");
            int from = source.indexOf("// ---- " + parts[i]), to = i + 1 < parts.length ? source.indexOf("// ---- " + parts[i + 1]) : source.length();
            for (String call : of[i]) { int at = source.indexOf(" " + call + "("); due(at > from && at < to && from > 0 ? 1 : 0, 1); }
        }
    }

    // ---- promises

    private static void promises1to9() {
        says("`ForecastHall()`: As told; an empty PLAN, all FIRST NUMBERS GAPS.");
        int[] counts = {9, 0, 0, 36, 0, 0, 0};
        for (int what = 0; what < 7; what++) due(x.count(what), counts[what]);
        for (int letter = 0; letter < 4; letter++) { for (int what = 0; what < 5; what++) due(x.line(letter, what), NONE); due(x.rim(letter, 0), 0); due(x.sum(true, 12, letter), 0); due(x.kept(letter), 1); for (int c = 0; c < 9; c++) due(x.first(c, letter, GAP), GAP); }
        due(x.rule(0, 0), 0); due(x.rule(1, 1), 1); due(x.fault(), NONE); due(x.grows(), 1); due(x.fails(), NO); due(x.least(), NO); due(x.mend(), NO); due(x.back(), NO);
        due(x.wipe(), 0);
        for (int c = 0; c < 9; c++) { due(x.put(c, 0), 0); due(x.give(c, 0), 0); due(x.marked(0, c, 0), 1); } for (int p = 0; p < 6; p++) due(x.pace(p, 5), 5);

        says("`int sky(int w, int h)`: W by H CELLS, GAPS all; SLIPS, told sums go, all CELLS are of person 0, KEPT ones go: how many CELLS. BAD.");
        x = full(); due(x.sky(2, 4), 8);
        int[] counted = {8, 160, 3, 32, 0, 0, 0}; for (int what = 0; what < 7; what++) due(x.count(what), counted[what]);
        for (int c = 0; c < 8; c++) { due(x.give(c, 0), 0); due(x.marked(0, c, 1), 1); for (int letter = 0; letter < 4; letter++) due(x.first(c, letter, GAP), GAP); }
        due(x.back(), NO); due(x.mend(), NO); due(x.fails(), NO); due(x.least(), NO);
        // what it does not name stays: plan, text, edge, walk, rim, paces, the judged row
        due(x.line(3, 4), 1); due(x.fault(), 4); due(x.rule(0, 1), 1); due(x.rule(1, 3), 3); due(x.rim(0, 4), 4); due(x.rim(1, 6), 6); due(x.rim(3, -9), -9);
        due(x.pace(1, 2), 2); due(x.pace(2, 8), 8); due(x.pace(5, 19), 19); for (int c = 0; c < 8; c++) due(x.put(c, 0), c * c);
        // numbers, sums and minutes of the sky ahead are gone at once
        fresh(6, 6); plan("a=a+b;"); all(0, 5); all(1, 1); x.slip(1, 0, 0, 3); due(x.sum(false, 12, 0), 36 * 17 + 3); due(x.sum(true, 12, 0), 36 * 17);
        for (int h = 6; h >= 2; h--) { x.sky(3, h); tellAll(12, 0, new long[h], of(0, 0, 0)); due(x.fails(), 0); due(x.sum(false, 12, 0), 0); due(x.sum(true, 12, 0), 0); due(x.marked(12, 0, 0), 1); due(x.when(1, -1), 15 * h); all(0, 2); all(1, 1); due(x.fails(), (1 << h) - 1 | 7 << 6); }
        // a larger sky begins with gaps and person 0 too, a smaller one leaves nothing behind for later
        x = full(); x.sky(6, 6); due(x.count(3), 144); for (int c = 0; c < 36; c++) { due(x.give(c, 5), 0); x.first(c, 0, c); } x.sky(2, 2); due(x.count(3), 16);
        for (int c = 0; c < 4; c++) due(x.give(c, 0), 0); x.sky(6, 6); due(x.count(3), 144); for (int c = 0; c < 36; c++) due(x.give(c, 0), 0);
        x = full(); due(x.sky(2, 7), BAD); due(x.count(0), 8); due(x.count(4), 12);

        says("`int rule(int what, int v)`: EDGE (what = 0), WALK (1): what it was. BAD.");
        due(x.rule(0, 2), 0); due(x.rule(0, 1), 2); due(x.rule(0, 0), 1); due(x.rule(0, 0), 0);
        for (int v = 0; v <= 9; v++) due(x.rule(1, v), v == 0 ? 1 : v - 1);
        for (int[] v : new int[][] {{0, -1}, {0, 3}, {0, 9}, {1, -1}, {1, 10}, {2, 0}, {-1, 0}, {Integer.MAX_VALUE, 1}, {0, Integer.MIN_VALUE}}) due(x.rule(v[0], v[1]), BAD);
        due(x.rule(0, 2), 0); due(x.rule(1, 0), 9);

        says("`int rim(int letter, int v)`: RIM of a letter: what it was. BAD answers -2000000.");
        due(x.rim(0, MILLION), 0); due(x.rim(0, -MILLION), MILLION); due(x.rim(0, 0), -MILLION); due(x.rim(3, 1), 0); due(x.rim(3, 2), 1);
        for (int[] v : new int[][] {{-1, 0}, {4, 0}, {0, MILLION + 1}, {0, -MILLION - 1}, {0, GAP}, {0, Integer.MIN_VALUE}, {3, Integer.MAX_VALUE}}) due(x.rim(v[0], v[1]), BAD_FIRST);
        due(x.rim(0, 5), 0); due(x.rim(3, 5), 2); due(x.rim(1, 5), 0);

        says("`int write(int n, long v)`: n bytes (1 to 8) of v, the highest first, come behind THE TEXT: how long it is. BAD; FULL.");
        for (int n : new int[] {0, 9, -1, -8, Integer.MIN_VALUE, Integer.MAX_VALUE}) due(x.write(n, 0x613d623b613d623bL), BAD);
        due(x.write(8, 0x613d62633b643d61L), 8); due(x.fault(), 3);
        // of each n the lowest bytes of v, the highest of them first
        String line = "a=b-c/2;";
        for (int n = 1; n <= 8; n++) { fresh(); long v = -1; for (int k = 0; k < n; k++) v = v << 8 | line.charAt(k); due(x.write(n, v), n); due(x.fault(), n < 8 ? n : NONE); for (int k = n; k < 8; k++) due(x.write(1, line.charAt(k) | 0x7fffff00L), k + 1); due(x.fault(), NONE); due(x.plan(), 1); due(x.line(0, 2), 2); }
        // to the last byte and not beyond, and nothing of it half
        for (int n = 1; n <= 8; n++) { fresh(); for (int k = 0; k < 19; k++) x.write(8, 0); for (int k = 0; k < 8 - n; k++) x.write(1, 0); due(x.count(1), 160 - n); for (int more = n + 1; more <= 8; more++) due(x.write(more, 0), FULL); due(x.count(1), 160 - n); due(x.write(n, 0), 160); due(x.write(n, 0), FULL); due(x.write(1, 0), FULL); due(x.write(0, 0), BAD); due(x.write(9, 0), BAD); due(x.count(1), 160); }
        // a byte above 127 is itself
        fresh(); due(x.write(4, 0xe1bde2bbL), 4); due(x.fault(), 0); x.wipe(); due(x.write(4, 0x613de23bL), 4); due(x.fault(), 2);

        says("`int wipe()`: THE TEXT is empty: how long it was.");
        due(x.wipe(), 0); writeAll(x, "a=b;"); due(x.plan(), 1); due(x.wipe(), 4); due(x.wipe(), 0); due(x.count(1), 0); due(x.count(2), 1); due(x.line(0, 0), 0);
        due(x.fault(), NONE); writeAll(x, "b"); due(x.fault(), 1); writeAll(x, times("b", 159)); due(x.wipe(), 160); due(x.write(8, 0), 8);

        says("`int fault()`: FAULT. NONE.");
        due(x.fault(), NONE); writeAll(x, "a=b;"); due(x.fault(), NONE); due(x.fault(), NONE); writeAll(x, "b"); due(x.fault(), 5); writeAll(x, "=0"); due(x.fault(), 6);
        due(x.fault(), 6); due(x.count(2), 0);

        says("`int plan()`: THE TEXT becomes THE PLAN: how many LINES. NO: a FAULT.");
        due(x.plan(), 0); due(plan("b=b;"), 1); due(x.count(1), 4); due(x.plan(), 1); writeAll(x, "a=2b;"); due(x.count(2), 1); due(x.line(0, 0), NONE); due(x.plan(), 2);
        due(x.line(0, 0), 1); writeAll(x, "x"); due(x.plan(), NO); due(x.count(2), 2); due(x.line(0, 0), 1); due(x.line(1, 0), 0);
        // nothing of the plan ahead is left, and numbers are new at once
        x.first(0, 1, 7); due(x.at(false, 1, 0, 0), 14); due(plan("a=3b-b/2;"), 1); due(x.line(1, 0), NONE); due(x.line(0, 2), 2); due(x.at(false, 1, 0, 0), 7);
        due(x.at(true, 1, 0, 0), 7); due(plan("a=b;c=b;"), 2); due(x.line(0, 2), 1); due(x.line(0, 1), 1); due(x.line(2, 0), 1); due(plan(""), 0);
        due(x.at(false, 1, 0, 0), 0); x.first(0, 0, 3); due(x.at(false, 12, 0, 0), 3);

        says("`int line(int letter, int what)`: Of the LINE for a letter: 0 its place among LINES (NONE), 1 TERMS, 2 divisor, 3 1 with ~ , 4 1 if it has a product (without a LINE: NONE each). BAD.");
        plan("d=a/1000~;b=a-2b.b+cn;a=-7aw.aw-c/3;");
        int[][] want = {{2, 2, 3, 0, 1}, {1, 3, 1, 0, 1}, {NONE, NONE, NONE, NONE, NONE}, {0, 1, 1000, 1, 0}};
        for (int letter = 0; letter < 4; letter++) { for (int what = 0; what < 5; what++) due(x.line(letter, what), want[letter][what]); due(x.line(letter, 5), BAD); due(x.line(letter, -1), BAD); }
        for (int letter : NOT_LETTERS) for (int what = -1; what < 6; what++) due(x.line(letter, what), BAD);
        // a product in any of its terms, none in another line's
        for (String text : new String[] {"a=b.b+c+d;b=b;", "a=b+c.c+d;b=b;", "a=b+c+d.d;b=b;", "b=b;a=b+c+d.b';"}) { due(plan(text), 2); due(x.line(0, 4), 1); due(x.line(1, 4), 0); }
    }

    private static void promises10to18() {
        says("`int first(int cell, int letter, int v)`: A FIRST NUMBER (2000000: a GAP): what it was. BAD answers -2000000.");
        due(x.first(8, 3, 5), GAP); due(x.first(8, 3, GAP), 5); due(x.first(8, 3, GAP), GAP); due(x.first(8, 3, 0), GAP); due(x.first(8, 3, -1), 0);
        due(x.first(0, 0, MILLION), GAP); due(x.first(0, 0, -MILLION), MILLION); due(x.first(8, 3, 1), -1); due(x.count(3), 34);
        for (int[] v : new int[][] {{-1, 0, 0}, {9, 0, 0}, {0, -1, 0}, {0, 4, 0}, {0, 0, MILLION + 1}, {0, 0, -MILLION - 1}, {0, 0, GAP - 1}, {0, 0, GAP + 1}, {0, 0, -GAP}, {Integer.MAX_VALUE, 0, 0}, {0, Integer.MIN_VALUE, 0}}) due(x.first(v[0], v[1], v[2]), BAD_FIRST);
        due(x.first(0, 0, 0), -MILLION);
        // of what is filled it is no answer, and all numbers are new at once
        fresh(); x.first(1, 0, 6); due(x.at(true, 0, 0, 0), 6); due(x.first(0, 0, 9), GAP); due(x.at(true, 5, 0, 0), 9); due(x.at(false, 5, 0, 0), 9);
        due(x.marked(5, 0, 0), 0); x.first(0, 0, GAP); due(x.at(false, 5, 0, 0), 6); due(x.marked(5, 0, 0), 1);

        says("`int at(boolean right, int step, int cell, int letter)`: THE HALL's NUMBER (right = false), the RIGHT one. BAD answers -2000000000.");
        x.slip(1, 0, 0, 3); due(x.at(false, 1, 0, 0), 3); due(x.at(true, 1, 0, 0), 0); due(x.at(false, 0, 0, 0), 0); due(x.at(false, 12, 0, 0), 3);
        for (int[] v : new int[][] {{-1, 0, 0}, {13, 0, 0}, {0, -1, 0}, {0, 9, 0}, {0, 0, -1}, {0, 0, 4}, {Integer.MAX_VALUE, 0, 0}, {0, Integer.MIN_VALUE, 0}}) { due(x.at(false, v[0], v[1], v[2]), BAD_NUMBER); due(x.at(true, v[0], v[1], v[2]), BAD_NUMBER); }
        // steps asked in any order, after each change
        fresh(); plan("a=a+b;"); all(0, 0); all(1, 1);
        for (int step : new int[] {12, 0, 7, 1, 11, 3}) { due(x.at(false, step, 8, 0), step); due(x.at(true, step, 8, 0), step); } x.first(8, 1, 2);
        due(x.at(false, 3, 8, 0), 6); due(x.at(true, 12, 8, 0), 24); x.slip(2, 8, 1, 1); due(x.at(false, 12, 8, 0), 34); x.mend(); due(x.at(false, 12, 8, 0), 24);

        says("`int marked(int step, int cell, int letter)`: 1: MARKED (THE HALL's); 0. BAD.");
        due(x.marked(0, 0, 0), 1); due(x.marked(12, 8, 3), 1); x.first(8, 3, 0); due(x.marked(0, 8, 3), 0); due(x.marked(12, 8, 3), 0);
        for (int[] v : new int[][] {{-1, 0, 0}, {13, 0, 0}, {0, -1, 0}, {0, 9, 0}, {0, 0, -1}, {0, 0, 4}}) due(x.marked(v[0], v[1], v[2]), BAD);

        says("`long sum(boolean right, int step, int letter)`: The sum of a letter over all CELLS at a STEP (VOID counts 0). BAD answers -2000000000000.");
        x.sky(6, 6); plan("a=b.c;"); all(1, MILLION); all(2, 1000); due(x.sum(true, 1, 0), 36000000000L); x.first(35, 2, 1001); x.first(0, 2, -1000);
        due(x.sum(true, 1, 0), 33000000000L); all(2, -1000); due(x.sum(true, 12, 0), -36000000000L); x.slip(1, 0, 0, 1); x.slip(1, 1, 0, -1);
        due(x.sum(false, 1, 0), -34999999999L); due(x.sum(true, 1, 0), -36000000000L);
        fresh(); plan("a=a.a;"); all(0, MILLION); due(x.sum(true, 0, 0), 9000000); due(x.sum(true, 1, 0), 0); due(x.sum(false, 12, 0), 0);
        for (int[] v : new int[][] {{-1, 0}, {13, 0}, {0, -1}, {0, 4}}) { due(x.sum(true, v[0], v[1]), BAD_SUM); due(x.sum(false, v[0], v[1]), BAD_SUM); }

        says("`int slip(int step, int cell, int letter, int amount)`: A SLIP: how many. BAD; FULL.");
        due(x.slip(1, 0, 0, 0), BAD); for (int i = 1; i <= 12; i++) due(x.slip(12, 8, 3, i), i); due(x.slip(12, 8, 3, 1), FULL); due(x.slip(12, 8, 3, 0), BAD);
        due(x.slip(0, 8, 3, 1), BAD); due(x.count(4), 12); due(x.at(false, 12, 8, 3), 78);

        says("`int mend()`: The latest SLIP is MENDED (goes): how many are left. NO.");
        due(x.mend(), NO); for (int i = 0; i < 12; i++) x.slip(i + 1, 0, 0, 1 << i);
        for (int i = 11; i >= 0; i--) { due(x.at(false, 12, 0, 0), (2 << i) - 1); due(x.mend(), i); due(x.count(4), i); } due(x.mend(), NO);
        due(x.at(false, 12, 0, 0), 0); due(x.slip(1, 0, 0, 4), 1); due(x.at(false, 12, 0, 0), 4); due(x.mend(), 0);

        says("`int spread(int i, int n, int what)`: SPREAD from SLIP i to STEP n (1 to 12): how many NUMBERS (what = 0), the last STEP with one (1; NONE), 1 if it HEALS (2). BAD; NO: no such SLIP.");
        for (int what = 0; what < 3; what++) { due(x.spread(0, 1, what), NO); due(x.spread(11, 12, what), NO); due(x.spread(12, 12, what), NO); due(x.spread(Integer.MAX_VALUE, 12, what), NO); due(x.spread(-1, 12, what), BAD); due(x.spread(0, 0, what), BAD); due(x.spread(0, 13, what), BAD); }
        due(x.spread(0, 1, -1), BAD); due(x.spread(0, 1, 3), BAD); due(x.spread(Integer.MIN_VALUE, 1, 0), BAD); x.slip(2, 0, 0, 1); dueSpread(0, 1, 0, NONE, 1);
        dueSpread(0, 2, 1, 2, 0); dueSpread(0, 12, 11, 12, 0); due(x.spread(1, 12, 0), NO); due(x.spread(1, 13, 0), BAD); due(x.spread(0, 12, 3), BAD); x.mend();
        due(x.spread(0, 12, 0), NO);

        says("`int kept(int letter)`: 1: a letter is KEPT by form; 0. BAD.");
        for (int letter : NOT_LETTERS) due(x.kept(letter), BAD); plan("a=a;b=a;"); due(x.kept(0), 1); due(x.kept(1), 0); due(x.kept(3), 1); x.rule(0, 1);
        for (int letter : NOT_LETTERS) due(x.kept(letter), BAD); due(x.kept(0), 0);

        says("`int grows()`: 1: THE PLAN GROWS not; 0.");
        due(x.grows(), 1); plan("a=a+a;"); due(x.grows(), 0); x.wipe(); writeAll(x, "a=a;"); due(x.grows(), 0); x.plan(); due(x.grows(), 1);
    }

    private static void promises19to24() {
        says("`int tell(int step, int letter, boolean column, int i, long v)`: A told sum of row i (column = false), column i of a letter at a STEP (0 to 12; v = 2000000000000: nothing told): 0. BAD. Sums are told of one STEP and letter alone: telling of others clears those ahead.");
        for (int[] v : new int[][] {{-1, 0, 0}, {13, 0, 0}, {0, -1, 0}, {0, 4, 0}, {0, 0, -1}, {0, 0, 3}}) { due(x.tell(v[0], v[1], false, v[2], 1), BAD); due(x.tell(v[0], v[1], true, v[2], 1), BAD); }
        due(x.count(6), 0); due(x.tell(0, 0, false, 2, 1), 0); due(x.tell(0, 0, true, 2, 1), 0); due(x.count(6), 2); due(x.fails(), 4 + 256);
        due(x.tell(0, 0, false, 2, 0), 0); due(x.count(6), 2); due(x.fails(), 256);
        // nothing told of one that is told, of one that is not
        due(x.tell(0, 0, true, 2, UNTOLD), 0); due(x.count(6), 1); due(x.fails(), 0); due(x.tell(0, 0, true, 1, UNTOLD), 0); due(x.count(6), 1);
        due(x.tell(0, 0, false, 2, UNTOLD), 0); due(x.count(6), 0); due(x.fails(), NO);
        // another step, another letter, and back to the first: those ahead are gone each time
        int[][] of = {{12, 0}, {12, 3}, {0, 3}, {0, 0}, {12, 0}};
        for (int[] v : of) { x.tell(v[0], v[1], false, 1, 5); due(x.count(6), 1); x.tell(v[0], v[1], true, 0, 5); due(x.count(6), 2); due(x.fails(), 2 + 64); }
        // what is BAD clears nothing; telling nothing of others clears
        due(x.tell(11, 0, false, 3, 5), BAD); due(x.tell(11, 0, false, 0, UNTOLD + 1), BAD); due(x.count(6), 2); due(x.tell(11, 0, false, 0, UNTOLD), 0);
        due(x.count(6), 0); due(x.fails(), NO);
        // a change of the hall clears nothing
        x.tell(1, 0, false, 0, 5); plan("a=b;"); x.first(0, 1, 5); x.rule(0, 2); x.keep(); x.back(); x.slip(1, 1, 0, 3); x.mend(); due(x.count(6), 1); due(x.fails(), 1);
        x.first(1, 1, 0); x.first(2, 1, 0); due(x.fails(), 0);

        says("`int fails()`: Told ones that FAIL: rows as bits 0 to 5, columns as bits 6 to 11. NO: nothing was told.");
        due(x.fails(), NO); for (int i = 0; i < 3; i++) { x.tell(0, 0, false, i, 1); due(x.fails(), (2 << i) - 1); }
        for (int i = 0; i < 3; i++) { x.tell(0, 0, true, i, 1); due(x.fails(), 7 + 64 * ((2 << i) - 1)); } for (int i = 0; i < 3; i++) x.tell(0, 0, false, i, 0);
        due(x.fails(), 7 * 64); x.sky(3, 3); due(x.fails(), NO); x.tell(0, 0, true, 0, 0); due(x.fails(), 0); x.tell(0, 0, true, 0, UNTOLD); due(x.fails(), NO);
        x.sky(6, 6); x.tell(0, 0, false, 5, 1); due(x.fails(), 32); x.tell(0, 0, true, 5, 1); due(x.fails(), 32 + 2048); x.tell(0, 1, true, 5, 1); due(x.fails(), 2048);

        says("`int least()`: LEAST. NO.");
        due(x.least(), NO); tellAll(0, 0, of(0, 0, 0), of(0, 0, 0)); due(x.least(), 0); x.tell(0, 0, false, 0, 1); due(x.least(), NO); x.tell(0, 0, true, 2, 1);
        due(x.least(), 1); x.tell(1, 0, true, 2, 1); due(x.least(), NO);

        says("`int second(int step, int cell)`: A SECOND reckoner at a CELL for a STEP (1 to 12). BAD.");
        for (int[] v : new int[][] {{0, 0}, {13, 0}, {-1, 0}, {1, -1}, {1, 9}, {Integer.MAX_VALUE, 0}, {1, Integer.MIN_VALUE}}) due(x.second(v[0], v[1]), BAD);
        x.slip(1, 0, 0, 1); x.slip(12, 8, 3, 1); due(x.second(1, 0), 1); due(x.second(12, 8), 8); due(x.second(2, 0), 0); due(x.second(11, 8), 0);

        says("`int put(int i, int v)`: JUDGED row: NUMBER of CELL i (0 at first; size 1000000000 at most): what it was. BAD answers -2000000000.");
        for (int c = 0; c < 9; c++) due(x.put(c, c), 0); for (int c = 0; c < 9; c++) due(x.put(c, MILLIARD), c); due(x.put(0, -MILLIARD), MILLIARD);
        due(x.put(0, 0), -MILLIARD);
        for (int[] v : new int[][] {{-1, 0}, {9, 0}, {0, MILLIARD + 1}, {0, -MILLIARD - 1}, {0, VOID}, {0, Integer.MIN_VALUE}, {0, Integer.MAX_VALUE}, {36, 0}}) due(x.put(v[0], v[1]), BAD_NUMBER);
        due(x.put(0, 0), 0); due(x.put(8, 0), MILLIARD);

        says("`int judge(int step, int letter)`: JUDGED: the first wrong CELL for a letter and STEP (1 to 12). NONE; BAD.");
        for (int[] v : new int[][] {{0, 0}, {13, 0}, {-1, 0}, {1, -1}, {1, 4}, {Integer.MAX_VALUE, 0}, {1, Integer.MIN_VALUE}}) due(x.judge(v[0], v[1]), BAD);
        due(x.judge(1, 0), NONE); due(x.judge(12, 3), NONE); x.put(8, 1); due(x.judge(1, 0), 8); x.put(0, 1); due(x.judge(12, 3), 0);
    }

    private static void promises25to34() {
        says("`int pace(int person, int v)`: PACE of a person: what it was. BAD.");
        for (int p = 0; p < 6; p++) { due(x.pace(p, p + 1), 5); due(x.pace(p, 20), p + 1); due(x.pace(p, 1), 20); }
        for (int[] v : new int[][] {{-1, 5}, {6, 5}, {0, 0}, {0, 21}, {0, -1}, {Integer.MAX_VALUE, 5}, {0, Integer.MIN_VALUE}}) due(x.pace(v[0], v[1]), BAD);
        for (int p = 0; p < 6; p++) due(x.pace(p, 5), 1);
        // minutes are new at once, those of shares too
        due(x.when(2, -1), 90); due(x.known(0, 49), 1); due(x.given(1, 1, -1), 45); x.pace(0, 4); due(x.when(2, -1), 72); due(x.known(0, 49), 2);
        due(x.given(1, 1, -1), 36);

        says("`int give(int cell, int person)`: A CELL is of a person: whose it was. BAD.");
        for (int c = 0; c < 9; c++) due(x.give(c, c % 6), 0); for (int c = 0; c < 9; c++) due(x.give(c, 5), c % 6);
        for (int[] v : new int[][] {{-1, 0}, {9, 0}, {0, -1}, {0, 6}, {Integer.MAX_VALUE, 0}, {0, Integer.MIN_VALUE}}) due(x.give(v[0], v[1]), BAD);
        for (int c = 0; c < 9; c++) due(x.give(c, 0), 5); due(x.when(1, -1), 45); due(x.slowest(1), 8); x.give(8, 1); due(x.when(1, -1), 40); due(x.slowest(1), 7);
        due(x.known(8, 5), 1);

        says("`int when(int step, int cell)`: When a CELL's STEP is ended (cell = -1: THE LAST). BAD.");
        for (int step = 0; step <= 12; step++) { due(x.when(step, -1), 45 * step); due(x.when(step, 8), 45 * step); due(x.when(step, 0), step == 0 ? 0 : 45 * step - 40); }
        for (int[] v : new int[][] {{-1, 0}, {13, 0}, {-1, -1}, {13, -1}, {0, -2}, {0, 9}, {1, Integer.MIN_VALUE}, {Integer.MAX_VALUE, 0}}) due(x.when(v[0], v[1]), BAD);

        says("`int slowest(int step)`: Whom all wait for at a STEP (1 to 12): the CELL. BAD.");
        for (int step : new int[] {0, 13, -1, Integer.MIN_VALUE, Integer.MAX_VALUE}) due(x.slowest(step), BAD);
        for (int step = 1; step <= 12; step++) due(x.slowest(step), 8); for (int c = 0; c < 9; c++) x.give(c, c < 3 ? 0 : c < 6 ? 1 : 2); x.rule(1, 0);
        for (int step = 1; step <= 12; step++) due(x.slowest(step), 2); x.pace(2, 6); due(x.slowest(1), 8);

        says("`int given(int q, int n, int cell)`: GIVEN to q people for STEP n: THE LAST (cell = -1), the person of a CELL. BAD; NO.");
        for (int[] v : new int[][] {{0, 1, 0}, {4, 1, 0}, {-1, 1, 0}, {1, -1, 0}, {1, 13, 0}, {1, 1, -2}, {1, 1, 9}, {Integer.MAX_VALUE, 1, 0}}) due(x.given(v[0], v[1], v[2]), BAD);
        for (int step = 0; step <= 12; step++) due(x.given(1, step, -1), 45 * step); due(x.given(3, 12, 8), x.given(3, 12, 8)); due(x.given(1, 12, 8), 0);
        due(x.given(2, 0, 8), 0); x.sky(5, 2); due(x.given(1, 1, 9), NO); due(x.given(1, 0, -1), NO); due(x.given(1, 1, 10), BAD); due(x.given(0, 1, 0), BAD);
        x.sky(4, 2); due(x.given(1, 1, 7), 0); due(x.given(1, 1, 8), BAD);

        says("`int known(int cell, int minute)`: KNOWN: the latest STEP of a CELL as of a minute (0 to 100000): 0 to 12. BAD.");
        for (int[] v : new int[][] {{-1, 0}, {9, 0}, {0, -1}, {0, 100001}, {0, Integer.MAX_VALUE}, {Integer.MIN_VALUE, 0}}) due(x.known(v[0], v[1]), BAD);
        due(x.known(0, 0), 0); due(x.known(8, 0), 0); due(x.known(8, 100000), 12); due(x.known(8, 44), 0); due(x.known(8, 45), 1); due(x.known(8, 539), 11);
        due(x.known(8, 540), 12);

        says("`int coarse(int n, int letter, int e)`: COARSE: how many CELLS of four are off at STEP n (1 to 12) by more than e (0 to 1000000) for a letter. BAD; NO: W or H odd.");
        for (int[] v : new int[][] {{0, 0, 0}, {13, 0, 0}, {1, -1, 0}, {1, 4, 0}, {1, 0, -1}, {1, 0, MILLION + 1}, {Integer.MAX_VALUE, 0, 0}, {1, 0, Integer.MIN_VALUE}}) { due(x.coarse(v[0], v[1], v[2]), BAD); x.sky(2, 2); due(x.coarse(v[0], v[1], v[2]), BAD); x.sky(3, 2); due(x.coarse(v[0], v[1], v[2]), BAD); x.sky(3, 3); }
        due(x.coarse(1, 0, 0), NO); x.sky(2, 3); due(x.coarse(12, 3, MILLION), NO); x.sky(3, 2); due(x.coarse(12, 3, MILLION), NO); x.sky(2, 2);
        due(x.coarse(12, 3, MILLION), 0); due(x.coarse(1, 0, 0), 0);

        says("`int keep()`: KEPT (THE PLAN, FIRST NUMBERS, SLIPS, EDGE, RIM): how many. FULL: 2.");
        due(x.keep(), 1); due(x.keep(), 2); due(x.keep(), FULL); due(x.count(5), 2); due(x.back(), 1); due(x.keep(), 2); due(x.keep(), FULL); x.sky(3, 3);
        due(x.keep(), 1);

        says("`int back()`: As KEPT last: how many are left. NO.");
        due(x.back(), NO);
        for (int turn = 0; turn < 2; turn++) { plan(turn == 0 ? "a=2b.b/3~;" : "b=b;a=bw;"); all(1, 5 + turn); x.first(4, 0, 7 + turn); x.slip(1, 0, turn, 9); x.rule(0, 1 + turn); x.rim(turn, 11); due(x.keep(), turn + 1); }
        plan("c=c;"); all(1, 1); x.first(4, 0, GAP); x.first(4, 2, 3); x.mend(); x.mend(); x.rule(0, 0); x.rim(0, 1); x.rim(1, 2);
        due(x.back(), 1); due(x.count(2), 2); due(x.line(0, 0), 1); due(x.line(0, 4), 0); due(x.line(2, 0), NONE); due(x.count(4), 2); due(x.at(false, 1, 0, 1), 15);
        due(x.at(true, 1, 0, 0), 11); due(x.at(false, 1, 0, 0), 20); due(x.first(4, 0, 8), 8); due(x.first(4, 2, GAP), GAP); due(x.rule(0, 2), 2); due(x.rim(0, 11), 11);
        due(x.rim(1, 11), 11);
        due(x.back(), 0); due(x.count(2), 1); due(x.line(0, 0), 0); due(x.line(0, 2), 3); due(x.line(0, 3), 1); due(x.line(1, 0), NONE); due(x.count(4), 1);
        due(x.at(true, 1, 0, 0), 17); due(x.at(false, 1, 0, 0), 26); due(x.first(4, 0, 7), 7); due(x.rule(0, 1), 1); due(x.rim(0, 11), 11); due(x.rim(1, 0), 0);
        due(x.back(), NO);
        // each first number, each slip by step, cell, letter and amount, whatever has come in between
        fresh(); for (int c = 0; c < 9; c++) for (int letter = 0; letter < 4; letter++) x.first(c, letter, 10 * c + letter);
        for (int i = 0; i < 12; i++) x.slip(i + 1, i % 9, i % 4, 1000 + i);
        x.keep(); for (int i = 0; i < 12; i++) x.mend();
        for (int c = 0; c < 9; c++) for (int letter = 0; letter < 4; letter++) x.first(c, letter, 7);
        for (int i = 0; i < 12; i++) x.slip(12 - i, (i + 5) % 9, (i + 3) % 4, -i - 1);
        due(x.back(), 0); for (int c = 0; c < 9; c++) for (int letter = 0; letter < 4; letter++) due(x.at(true, 5, c, letter), 10 * c + letter);
        for (int i = 0; i < 12; i++) { due(x.at(false, i + 1, i % 9, i % 4), 10 * (i % 9) + i % 4 + 1000 + i); due(x.at(false, i, i % 9, i % 4), 10 * (i % 9) + i % 4); }
        // what is not kept does not come back: text, walk, paces, whose cells are, told sums, the judged row
        fresh(); x.keep(); writeAll(x, "a"); x.rule(1, 2); x.pace(1, 3); x.give(1, 1); x.tell(0, 0, true, 0, 1); x.put(1, 1); due(x.back(), 0); due(x.count(1), 1);
        due(x.rule(1, 2), 2); due(x.pace(1, 3), 3); due(x.give(1, 1), 1); due(x.count(6), 1); due(x.put(1, 1), 1);

        says("`int count(int what)`: How many: 0 CELLS, 1 bytes of THE TEXT, 2 LINES of THE PLAN, 3 GAPS, 4 SLIPS, 5 KEPT, 6 sums told. BAD.");
        for (int what : new int[] {-1, 7, Integer.MIN_VALUE, Integer.MAX_VALUE}) due(x.count(what), BAD);
        x.sky(2, 5); writeAll(x, "a=a;b=b;d=d;"); x.plan(); writeAll(x, "x"); x.first(0, 0, 0); x.first(9, 3, MILLION); for (int i = 0; i < 4; i++) x.slip(1, 0, 0, 1);
        x.keep(); x.keep(); for (int i = 0; i < 5; i++) x.tell(0, 0, false, i, 0);
        int[] want = {10, 13, 3, 38, 4, 2, 5}; for (int what = 0; what < 7; what++) due(x.count(what), want[what]); x.tell(0, 0, true, 1, 0); due(x.count(6), 6);
        x.first(0, 0, GAP); due(x.count(3), 39);
    }

    /** Any numbers in any state: no call throws, and what is written down for 512 calls is not needed for that. */
    private static void neverThrows() throws Exception {
        says("An object is used for at most 512 calls after it has been made; what later calls answer is free.");
        for (int i = 0; i < 511; i++) x.slip(1 + i % 12, i % 9, i % 4, 1);
        due(x.count(4), 12);
        int[] odd = {0, 1, 2, 3, 4, 5, 6, 8, 9, 12, 13, 35, 36, 160, -1, -2, 999999, 1000000, 1000001, 2000000, 2000000000, Integer.MIN_VALUE, Integer.MAX_VALUE, Integer.MIN_VALUE + 1};
        Method[] face = ForecastHall.class.getDeclaredMethods();
        Arrays.sort(face, (a, b) -> a.toString().compareTo(b.toString()));
        Random random = new Random(11);
        int thrown = 0;
        for (int object = 0; object < 60; object++) {
            x = object % 3 == 0 ? full() : object % 3 == 1 ? bare() : new ForecastHall();
            for (int call = 0; call < 3000; call++) {
                Method m = face[random.nextInt(face.length)];
                if (!Modifier.isPublic(m.getModifiers())) continue;
                Object[] with = new Object[m.getParameterCount()];
                for (int i = 0; i < with.length; i++) {
                    Class<?> type = m.getParameterTypes()[i];
                    int v = odd[random.nextInt(odd.length)];
                    with[i] = type == boolean.class ? (Object) random.nextBoolean() : type == long.class ? (Object) (random.nextBoolean() ? v : random.nextLong()) : (Object) v;
                    if (type == long.class && with[i] instanceof Integer) with[i] = (long) v;
                }
                try { m.invoke(x, with); } catch (InvocationTargetException e) { thrown++; System.out.println(m + " " + Arrays.toString(with) + ": " + e.getCause()); }
            }
        }
        due(thrown, 0);
    }

    // ---- that nothing is left out

    private static String squeezed(String s) { return s.replace("```text", " ").replace("```java", " ").replace("```", " ").replaceAll("\\s+", " ").trim(); }

    /** Each quotation stands in the document, and of the terms and promises nothing is left without one. */
    private static void allSaid() throws IOException {
        Path path = Path.of("../shared/DOC.md");
        if (!Files.exists(path)) { System.out.println("no " + path + ": quotations are not looked at"); return; }
        String document = Files.readString(path);
        String whole = squeezed(document);
        int from = document.indexOf("==== 1 "), to = document.indexOf("## Not promised");
        String rest = squeezed(document.substring(Math.max(0, from), to < 0 ? document.length() : to)).replaceAll("## Promises?( \\d+: \\w+( \\w+)*)? ?(?=`|#|$)", " ");
        List<String> longestFirst = new ArrayList<>(said);
        longestFirst.sort((a, b) -> b.length() - a.length());
        for (String quotation : longestFirst) {
            if (whole.contains(squeezed(quotation))) passed++;
            else { failed++; System.out.println("not in the document: «" + quotation + "»"); }
            rest = rest.replace(squeezed(quotation), " ");
        }
        rest = rest.trim();
        if (rest.isEmpty()) passed++;
        else { failed++; System.out.println("without a test: «" + rest.replaceAll("\\s+", " ") + "»"); }
    }
}
