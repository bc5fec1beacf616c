import java.util.ArrayList;
import java.util.List;
import java.util.Random;
import java.util.regex.Matcher;
import java.util.regex.Pattern;

// Random runs of up to 512 calls, each answer against a slow model that shares nothing with the class.
public final class ModelTests {
  private static final Pattern LARDER = Pattern.compile("[jwcpg][0-9][0-9](,[jwcpg][0-9][0-9]){1,5}");
  private static final int RUNS = 1500, CALLS = 512;

  /** All that an image keeps. */
  private static final class Time implements Cloneable {
    int year, eaten, lost, joy;
    int[] spoons = new int[0], eatenNow = new int[0];
    List<int[]> tasted = new ArrayList<>();

    Time copy() {
      Time t = new Time();
      t.year = year;
      t.eaten = eaten;
      t.lost = lost;
      t.joy = joy;
      t.spoons = spoons.clone();
      t.eatenNow = eatenNow.clone();
      t.tasted = new ArrayList<>(tasted);
      return t;
    }
  }

  private static final class Model {
    String page = "";
    String[] jars = {};
    Time t = new Time();
    Time kept = null;
    int reads = 0, bests = 0;

    int rank(int jar) { return "jwcpg".indexOf(jars[jar].charAt(0)); }
    int good(int jar) { return jars[jar].charAt(1) - '0'; }
    int sugar(int jar) { return jars[jar].charAt(2) - '0'; }
    boolean no(int jar) { return jar < 0 || jar >= jars.length; }

    int mould(int jar, int year) {
      int each = 3;
      for (int s = 3; s <= sugar(jar); s += 3) each--;
      if (rank(jar) == 1) each++;
      if (rank(jar) == 2 || rank(jar) == 4) each = 0;
      int all = 0;
      for (int y = 0; y < year; y++) all += each;
      return Math.min(all, 20);
    }

    int first(int jar, int year) {
      int w = good(jar) - mould(jar, year);
      if (rank(jar) == 3 && (year & 1) != 0) w += 3;
      if (rank(jar) == 4) w += w;
      return w;
    }

    int letter(int code) {
      if (code <= 0 || code >= 127) return -102;
      if (page.length() == 25) return -104;
      page += (char) code;
      return page.length();
    }

    int blank() {
      int n = page.length();
      page = "";
      return n;
    }

    int fault() {
      for (int n = 1; n <= page.length(); n++) {
        Matcher m = LARDER.matcher(page.substring(0, n));
        if (!m.matches() && !m.hitEnd()) return n - 1;
        // behind a whole larder of six nothing can come; hitEnd is set by matches() there, too
        if (n > 23) return 23;
      }
      return page.length();
    }

    int larder() {
      if (!LARDER.matcher(page).matches()) return -103;
      jars = page.split(",");
      page = "";
      t = new Time();
      t.spoons = new int[jars.length];
      t.eatenNow = new int[jars.length];
      java.util.Arrays.fill(t.spoons, 12);
      kept = null;
      reads++;
      return jars.length;
    }

    int jar(int jar, int what) {
      if (no(jar)) return -101;
      if (what == 0) return rank(jar);
      if (what == 1) return good(jar);
      if (what == 2) return sugar(jar);
      if (what == 3) return t.spoons[jar];
      if (what == 4) return mould(jar, t.year);
      if (what == 5) return 100 + first(jar, t.year) - t.eatenNow[jar];
      if (what == 6) return t.eatenNow[jar];
      if (what != 7) return -102;
      int top = Integer.MIN_VALUE;
      for (int d = 0; d <= 9; d++) top = Math.max(top, first(jar, t.year + d));
      int d = 0;
      while (first(jar, t.year + d) != top) d++;
      return d;
    }

    int as(int jar, int kind) {
      if (no(jar)) return -101;
      if (kind < 0 || kind > 4) return -102;
      return kind == 0 || kind == rank(jar) || kind == 2 && rank(jar) == 4 ? jar : -1;
    }

    int worth(int jar, int year) {
      if (no(jar)) return -101;
      return year < 0 || year > 99 ? -102 : 100 + first(jar, year);
    }

    static void swallow(Model m, Time t, int jar) {
      t.joy += m.first(jar, t.year) - t.eatenNow[jar];
      t.spoons[jar]--;
      t.eatenNow[jar]++;
      t.eaten++;
    }

    int eat(int jar) {
      if (no(jar)) return -101;
      if (t.spoons[jar] == 0) return -103;
      int joy = t.joy;
      swallow(this, t, jar);
      return 100 + t.joy - joy;
    }

    int wasps(int jar) {
      if (no(jar)) return -101;
      if (t.spoons[jar] == 0) return -103;
      t.lost++;
      return --t.spoons[jar];
    }

    int year() {
      if (jars.length == 0) return -103;
      if (t.year == 99) return -104;
      t.eatenNow = new int[jars.length];
      return ++t.year;
    }

    private int most;
    private int[] mostWay;

    /** Tries all ways, in the order of the numbers; the first of like ones stays. */
    private void tryAll(int jar, int left, int worth, int[] way) {
      if (jar == jars.length) {
        if (left == 0 && (mostWay == null || worth > most)) {
          most = worth;
          mostWay = way.clone();
        }
        return;
      }
      int sum = worth;
      for (int n = 0; n <= left && n <= t.spoons[jar]; n++) {
        way[jar] = n;
        tryAll(jar + 1, left - n, sum, way);
        sum += first(jar, t.year) - t.eatenNow[jar] - n;
      }
    }

    int best(int spoons, int what) {
      if (spoons < 0 || spoons > 12) return -102;
      if (what != 0 && (what < 10 || what > 15)) return -102;
      if (jars.length == 0 || bests == 40) return -103;
      bests++;
      mostWay = null;
      tryAll(0, spoons, 0, new int[jars.length]);
      if (mostWay == null) return -1;
      if (what == 0) return 1000 + most;
      return what - 10 < jars.length ? mostWay[what - 10] : -1;
    }

    int taste(int year, int worth) {
      if (year < 0 || year > 99 || worth < -20 || worth > 30) return -102;
      if (t.tasted.size() == 6) return -104;
      t.tasted.add(new int[] {year, worth});
      return t.tasted.size();
    }

    int forget() {
      int n = t.tasted.size();
      t.tasted = new ArrayList<>();
      return n;
    }

    int which() {
      if (jars.length == 0) return -103;
      int bits = 0;
      for (int j = 0; j < jars.length; j++) {
        boolean so = true;
        for (int[] each : t.tasted) so &= first(j, each[0]) == each[1];
        if (so) bits += 1 << j;
      }
      return bits;
    }

    int tasteNext() {
      if (jars.length == 0) return -103;
      int bits = which();
      if (bits == 0) return -1;
      int found = -1, fewest = 100;
      for (int d = 9; d >= 0; d--) {
        int[] by = new int[200];
        int worst = 0;
        for (int j = 0; j < jars.length; j++) {
          if ((bits & 1 << j) != 0) worst = Math.max(worst, ++by[100 + first(j, t.year + d)]);
        }
        if (worst <= fewest) {
          fewest = worst;
          found = d;
        }
      }
      return found;
    }

    int times(int years, int seed, int what) {
      if (years < 1 || years > 60 || seed < 0 || what < 0 || what > 2) return -102;
      if (jars.length == 0) return -103;
      Time would = t.copy();
      java.math.BigInteger s = java.math.BigInteger.valueOf(seed);
      for (int i = 0; i < 2 * years; i++) {
        s = s.multiply(java.math.BigInteger.valueOf(1103515245)).add(java.math.BigInteger.valueOf(12345))
            .mod(java.math.BigInteger.ONE.shiftLeft(31));
        int j = s.shiftRight(16).mod(java.math.BigInteger.valueOf(jars.length)).intValue();
        if (i % 2 == 0) {
          if (would.spoons[j] > 0) would.spoons[j]--;
        } else {
          if (would.spoons[j] > 0) swallow(this, would, j);
          would.eatenNow = new int[jars.length];
          would.year++;
        }
      }
      if (what == 2) return s.intValue();
      return what == 1 ? 2000 + would.joy : java.util.Arrays.stream(would.spoons).sum();
    }

    int image() {
      if (jars.length == 0) return -103;
      kept = t.copy();
      return t.year;
    }

    int restore() {
      if (kept == null) return -103;
      t = kept.copy();
      return t.year;
    }

    int count(int what) {
      int empty = 0;
      for (int n : t.spoons) if (n == 0) empty++;
      int[] all = {jars.length, t.year, java.util.Arrays.stream(t.spoons).sum(), 2000 + t.joy, empty, t.eaten, t.lost,
          t.tasted.size(), page.length(), reads, bests};
      return what < 0 || what > 10 ? -102 : all[what];
    }

    long digest() {
      List<Integer> told = new ArrayList<>();
      for (int j = 0; j < jars.length; j++) {
        for (int what = 0; what < 8; what++) told.add(jar(j, what));
        told.add(worth(j, 1));
        told.add(worth(j, 2));
      }
      if (jars.length > 0) {
        told.add(which());
        told.add(tasteNext());
      }
      for (char c : page.toCharArray()) told.add((int) c);
      for (int what = 0; what < 11; what++) told.add(count(what));
      long h = 1031;
      for (int each : told) h = h * 31 + each;
      return h;
    }
  }

  private static int wrong = 0;
  private static Random dice;
  private static JamDays x;
  private static Model m;
  private static StringBuilder calls;

  private static void due(String call, long got, long want) {
    calls.append(call).append('\n');
    if (got != want) {
      wrong++;
      System.out.println(call + " answered " + got + ", due is " + want + ", after\n" + calls);
      System.exit(1);
    }
  }

  /** Mostly from low to high, now and then just outside or far out. */
  private static int number(int low, int high) {
    int far = dice.nextInt(60);
    if (far == 0) return low - 1;
    if (far == 1) return high + 1;
    if (far == 2) return dice.nextInt();
    if (far == 3) return dice.nextBoolean() ? Integer.MAX_VALUE : Integer.MIN_VALUE;
    return low + dice.nextInt(high - low + 1);
  }

  private static String text() {
    StringBuilder s = new StringBuilder();
    int n = dice.nextInt(14) == 0 ? 1 + dice.nextInt(7) : 2 + dice.nextInt(5);
    String kinds = dice.nextBoolean() ? "jwcpg" : "jp";
    for (int i = 0; i < n; i++) {
      if (i > 0) s.append(',');
      s.append(kinds.charAt(dice.nextInt(kinds.length()))).append(dice.nextInt(10)).append(dice.nextInt(10));
    }
    if (dice.nextInt(6) == 0) s.setCharAt(dice.nextInt(s.length()), "jw09,x/:".charAt(dice.nextInt(8)));
    return s.toString();
  }

  private static int write(int left) {
    String text = text();
    int done = 0;
    if (dice.nextInt(8) != 0) {
      due("blank()", x.blank(), m.blank());
      done++;
    }
    for (int i = 0; i < text.length() && done < left; i++, done++) {
      int code = dice.nextInt(150) == 0 ? number(1, 126) : text.charAt(i);
      due("letter(" + code + ")", x.letter(code), m.letter(code));
    }
    if (done < left && dice.nextInt(3) == 0) {
      due("fault()", x.fault(), m.fault());
      done++;
    }
    if (done < left) {
      due("larder()", x.larder(), m.larder());
      done++;
    }
    return done;
  }

  private static int tasteWorth(int year) {
    boolean fits = m.jars.length > 0 && year >= 0 && year <= 99 && dice.nextInt(5) != 0;
    return fits ? m.first(dice.nextInt(m.jars.length), year) : number(-20, 30);
  }

  private static int calm() {
    int many = 1 + dice.nextInt(12);
    int j = number(0, Math.max(0, m.jars.length - 1));
    for (int i = 0; i < many; i++) {
      if (dice.nextInt(3) == 0) due("wasps(" + j + ")", x.wasps(j), m.wasps(j));
      else due("eat(" + j + ")", x.eat(j), m.eat(j));
    }
    return many;
  }

  private static int years() {
    int many = dice.nextInt(12) == 0 ? 40 : 1 + dice.nextInt(3);
    for (int i = 0; i < many; i++) due("year()", x.year(), m.year());
    return many;
  }

  private static int call(int left) {
    int j = number(0, Math.max(1, m.jars.length - 1)), a = number(0, 10), y = number(0, 99);
    switch (dice.nextInt(22)) {
      case 0: return m.jars.length == 0 || dice.nextInt(12) == 0 ? write(left) : 0;
      case 1: return left > 12 ? calm() : 0;
      case 2: return left > 40 ? years() : 0;
      case 3: due("fault()", x.fault(), m.fault()); return 1;
      case 4: int code = number(1, 126); due("letter(" + code + ")", x.letter(code), m.letter(code)); return 1;
      case 5: int w = number(0, 7); due("jar(" + j + ", " + w + ")", x.jar(j, w), m.jar(j, w)); return 1;
      case 6: int k = number(0, 4); due("as(" + j + ", " + k + ")", x.as(j, k), m.as(j, k)); return 1;
      case 7: due("worth(" + j + ", " + y + ")", x.worth(j, y), m.worth(j, y)); return 1;
      case 8: due("eat(" + j + ")", x.eat(j), m.eat(j)); return 1;
      case 9: due("wasps(" + j + ")", x.wasps(j), m.wasps(j)); return 1;
      case 10: case 11: case 12: {
        int s = number(0, 12), what = dice.nextBoolean() ? 0 : number(10, 15);
        due("best(" + s + ", " + what + ")", x.best(s, what), m.best(s, what));
        return 1;
      }
      case 13: case 14: {
        int t = tasteWorth(y);
        due("taste(" + y + ", " + t + ")", x.taste(y, t), m.taste(y, t));
        return 1;
      }
      case 15: due("forget()", x.forget(), m.forget()); return 1;
      case 16: due("which()", x.which(), m.which()); return 1;
      case 17: due("tasteNext()", x.tasteNext(), m.tasteNext()); return 1;
      case 18: {
        int n = number(1, 60), s = dice.nextBoolean() ? number(0, 100) : dice.nextInt(), what = number(0, 2);
        due("times(" + n + ", " + s + ", " + what + ")", x.times(n, s, what), m.times(n, s, what));
        return 1;
      }
      case 19: due("image()", x.image(), m.image()); return 1;
      case 20: due("restore()", x.restore(), m.restore()); return 1;
      default: due("count(" + a + ")", x.count(a), m.count(a)); return 1;
    }
  }

  public static void main(String[] args) {
    for (int run = 0; run < RUNS; run++) {
      dice = new Random(run);
      x = new JamDays();
      m = new Model();
      calls = new StringBuilder("run " + run + "\n");
      int left = CALLS / 2;
      while (left > 0) {
        int done = call(left);
        left -= done;
        // a digest behind every call tells of what a call should not have changed
        if (done == 1) due("digest()", x.digest(), m.digest());
      }
    }
    System.out.println("the model agrees in " + RUNS + " runs");
  }
}
