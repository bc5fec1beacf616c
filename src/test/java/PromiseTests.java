// By promise: ordinary inputs, the edges that the document names, wrong inputs. All dues are worked out by hand.
public final class PromiseTests {
  private static int wrong = 0;
  private static String part = "";

  private static void due(String call, long got, long want) {
    if (got != want) {
      wrong++;
      System.out.println(part + ": " + call + " answered " + got + ", due is " + want);
    }
  }

  private static void write(JamDays x, String text) {
    for (int i = 0; i < text.length(); i++) x.letter(text.charAt(i));
  }

  private static JamDays page(String text) {
    JamDays x = new JamDays();
    write(x, text);
    return x;
  }

  private static JamDays read(String text) {
    JamDays x = page(text);
    due("larder() of " + text, x.larder(), (text.length() + 1) / 4);
    return x;
  }

  private static void years(JamDays x, int years) {
    for (int i = 0; i < years; i++) x.year();
  }

  /** A refused call changes nothing: the digest tells of all but the image. */
  private static void refused(JamDays x, String call, long before, long got, long want) {
    due(call, got, want);
    due("digest() after " + call, x.digest(), before);
  }

  public static void main(String[] args) {
    constants();
    newObject();
    letter();
    blank();
    fault();
    larder();
    jar();
    when();
    as();
    worth();
    eat();
    wasps();
    year();
    best();
    bestLimit();
    taste();
    forget();
    which();
    tasteNext();
    times();
    image();
    restore();
    count();
    digest();
    System.out.println(wrong == 0 ? "all promises hold" : wrong + " answers are not as due");
    if (wrong != 0) System.exit(1);
  }

  private static void constants() {
    part = "constants";
    due("NONE", JamDays.NONE, -1);
    due("UNKNOWN", JamDays.UNKNOWN, -101);
    due("OUTSIDE", JamDays.OUTSIDE, -102);
    due("STATE", JamDays.STATE, -103);
    due("FULL", JamDays.FULL, -104);
  }

  private static void newObject() {
    part = "promise 1";
    JamDays x = new JamDays();
    for (int what = 0; what <= 10; what++) due("count(" + what + ")", x.count(what), what == 3 ? 2000 : 0);
    long h = x.digest();
    refused(x, "jar(0, 0)", h, x.jar(0, 0), JamDays.UNKNOWN);
    refused(x, "as(0, 0)", h, x.as(0, 0), JamDays.UNKNOWN);
    refused(x, "worth(0, 0)", h, x.worth(0, 0), JamDays.UNKNOWN);
    refused(x, "eat(0)", h, x.eat(0), JamDays.UNKNOWN);
    refused(x, "wasps(0)", h, x.wasps(0), JamDays.UNKNOWN);
    refused(x, "year()", h, x.year(), JamDays.STATE);
    refused(x, "best(0, 0)", h, x.best(0, 0), JamDays.STATE);
    refused(x, "which()", h, x.which(), JamDays.STATE);
    refused(x, "tasteNext()", h, x.tasteNext(), JamDays.STATE);
    refused(x, "times(1, 0, 0)", h, x.times(1, 0, 0), JamDays.STATE);
    refused(x, "image()", h, x.image(), JamDays.STATE);
    refused(x, "restore()", h, x.restore(), JamDays.STATE);
    refused(x, "larder()", h, x.larder(), JamDays.STATE);
    due("fault()", x.fault(), 0);
    due("blank()", x.blank(), 0);
    due("forget()", x.forget(), 0);
  }

  private static void letter() {
    part = "promise 2";
    JamDays x = new JamDays();
    due("letter(1)", x.letter(1), 1);
    due("letter(126)", x.letter(126), 2);
    long h = x.digest();
    refused(x, "letter(0)", h, x.letter(0), JamDays.OUTSIDE);
    refused(x, "letter(127)", h, x.letter(127), JamDays.OUTSIDE);
    refused(x, "letter(-1)", h, x.letter(-1), JamDays.OUTSIDE);
    refused(x, "letter(MIN)", h, x.letter(Integer.MIN_VALUE), JamDays.OUTSIDE);
    refused(x, "letter(MAX)", h, x.letter(Integer.MAX_VALUE), JamDays.OUTSIDE);
    for (int i = 3; i <= 25; i++) due("letter(" + i + ")", x.letter('j'), i);
    h = x.digest();
    refused(x, "letter(106) on a full page", h, x.letter('j'), JamDays.FULL);
    refused(x, "letter(127) on a full page", h, x.letter(127), JamDays.OUTSIDE);
    due("count(8)", x.count(8), 25);
    due("blank()", x.blank(), 25);
    due("letter(106)", x.letter('j'), 1);
  }

  private static void blank() {
    part = "promise 3";
    JamDays x = page("j0x");
    due("fault()", x.fault(), 2);
    due("blank()", x.blank(), 3);
    due("blank() again", x.blank(), 0);
    due("count(8)", x.count(8), 0);
    write(x, "j00,c11");
    due("fault() of the next page", x.fault(), 7);
    due("larder()", x.larder(), 2);
    write(x, "c");
    due("blank() with a larder", x.blank(), 1);
    due("count(0)", x.count(0), 2);
  }

  private static void faultOf(String text, int want) {
    due("fault() of " + text, page(text).fault(), want);
  }

  private static void fault() {
    part = "promise 4";
    faultOf("", 0);
    faultOf("j", 1);
    faultOf("j0", 2);
    faultOf("j00", 3);
    faultOf("j00,", 4);
    faultOf("j00,w11,c22,p33,g44,j55", 23);
    faultOf("j00,w11,c22,p33,g44,j55,", 23);
    faultOf("j00,w11,c22,p33,g44,j55j", 23);
    faultOf("j00,w11,c22,p33,g44,j5x,", 22);
    faultOf("x", 0);
    faultOf("J00", 0);
    faultOf("000", 0);
    faultOf(",", 0);
    faultOf("jj0", 1);
    faultOf("j/0", 1);
    faultOf("j:0", 1);
    faultOf("j0/", 2);
    faultOf("j9:", 2);
    faultOf("j00j", 3);
    faultOf("j00;w11", 3);
    faultOf("j00,,", 4);
    faultOf("g99,x11", 4);
    faultOf("j000", 3);
    JamDays x = page("p90,w09");
    due("fault() once", x.fault(), 7);
    due("fault() changes nothing", x.fault(), 7);
    due("count(8)", x.count(8), 7);
  }

  private static void noLarder(String text) {
    JamDays x = page(text);
    refused(x, "larder() of " + text, x.digest(), x.larder(), JamDays.STATE);
    due("count(9)", x.count(9), 0);
  }

  private static void larder() {
    part = "promise 5";
    for (String text : new String[] {"", "j", "j00", "j00,", "j00,w", "j00,w1", "j00,w11,", "x00,w11", "j00,x11",
        "j00w11", "j00,w11,c22,p33,g44,j55,", "j00,w11,c22,p33,g44,j55,w", "j00,w1,c22"}) noLarder(text);
    read("j00,w11");
    read("j00,w11,c22,p33,g44,j55");

    JamDays x = read("c55,j47");
    due("count(8) after it is read", x.count(8), 0);
    x.eat(0);
    x.wasps(1);
    x.year();
    x.taste(1, 5);
    x.image();
    x.eat(0);
    write(x, "j0");
    due("larder() of j0", x.larder(), JamDays.STATE);
    due("restore() after a refused larder()", x.restore(), 1);
    due("the page stays", x.blank(), 2);
    write(x, "g12,p34,w56");
    due("larder()", x.larder(), 3);
    int[] fresh = {3, 0, 36, 2000, 0, 0, 0, 0, 0, 2, 0};
    for (int what = 0; what <= 10; what++) due("count(" + what + ")", x.count(what), fresh[what]);
    due("restore()", x.restore(), JamDays.STATE);
    due("jar(0, 0)", x.jar(0, 0), 4);
    due("jar(0, 6)", x.jar(0, 6), 0);
    write(x, "j00,j00");
    due("larder() of fewer", x.larder(), 2);
    due("jar(2, 0)", x.jar(2, 0), JamDays.UNKNOWN);
    due("count(2)", x.count(2), 24);

    JamDays y = new JamDays();
    y.taste(3, 3);
    y.taste(4, 4);
    write(y, "j99,j98");
    due("larder() ahead of which it is tasted", y.larder(), 2);
    due("count(7)", y.count(7), 0);
    due("which()", y.which(), 3);
  }

  private static void jar() {
    part = "promise 6";
    JamDays x = read("j74,w52,c98,p83,g31,j09");
    int[][] first = {
      {0, 7, 4, 12, 0, 107, 0}, {1, 5, 2, 12, 0, 105, 0}, {2, 9, 8, 12, 0, 109, 0},
      {3, 8, 3, 12, 0, 108, 0}, {4, 3, 1, 12, 0, 106, 0}, {0, 0, 9, 12, 0, 100, 0}};
    for (int j = 0; j < 6; j++)
      for (int what = 0; what < 7; what++) due("jar(" + j + ", " + what + ")", x.jar(j, what), first[j][what]);
    x.year();
    int[] mould = {2, 4, 0, 2, 0, 0};
    int[] next = {105, 101, 109, 109, 106, 100};
    for (int j = 0; j < 6; j++) {
      due("jar(" + j + ", 4) in year 1", x.jar(j, 4), mould[j]);
      due("jar(" + j + ", 5) in year 1", x.jar(j, 5), next[j]);
    }
    x.eat(4);
    x.eat(4);
    x.wasps(4);
    due("jar(4, 3)", x.jar(4, 3), 9);
    due("jar(4, 5)", x.jar(4, 5), 104);
    due("jar(4, 6)", x.jar(4, 6), 2);
    due("jar(0, 6)", x.jar(0, 6), 0);
    for (int i = 0; i < 12; i++) x.eat(2);
    due("jar(2, 3)", x.jar(2, 3), 0);
    due("jar(2, 5) if there is none", x.jar(2, 5), 97);
    due("jar(2, 6)", x.jar(2, 6), 12);
    x.year();
    due("jar(2, 5) of an empty one", x.jar(2, 5), 109);
    due("jar(2, 6)", x.jar(2, 6), 0);
    years(x, 97);
    int[] late = {20, 20, 0, 20, 0, 0};
    for (int j = 0; j < 6; j++) due("jar(" + j + ", 4) in year 99", x.jar(j, 4), late[j]);
    due("jar(3, 5) in year 99", x.jar(3, 5), 91);
    long h = x.digest();
    refused(x, "jar(6, 0)", h, x.jar(6, 0), JamDays.UNKNOWN);
    refused(x, "jar(-1, 0)", h, x.jar(-1, 0), JamDays.UNKNOWN);
    refused(x, "jar(MIN, 9)", h, x.jar(Integer.MIN_VALUE, 9), JamDays.UNKNOWN);
    refused(x, "jar(0, -1)", h, x.jar(0, -1), JamDays.OUTSIDE);
    refused(x, "jar(5, 8)", h, x.jar(5, 8), JamDays.OUTSIDE);
    refused(x, "jar(0, MAX)", h, x.jar(0, Integer.MAX_VALUE), JamDays.OUTSIDE);
    due("jar(2, 0) of two", read("j00,j00").jar(2, 0), JamDays.UNKNOWN);
    mouldBySugar();
  }

  private static void mouldBySugar() {
    JamDays plain = read("j90,j92,j93,j95,j96,j98");
    JamDays weak = read("w90,w92,w93,w96,w98,w99");
    plain.year();
    weak.year();
    int[] byPlain = {3, 3, 2, 2, 1, 1};
    int[] byWeak = {4, 4, 3, 2, 2, 1};
    for (int j = 0; j < 6; j++) {
      due("plain jar(" + j + ", 4)", plain.jar(j, 4), byPlain[j]);
      due("weak jar(" + j + ", 4)", weak.jar(j, 4), byWeak[j]);
    }
    years(weak, 5);
    due("weak w90 in year 6", weak.jar(0, 4), 20);
    due("weak w93 in year 6", weak.jar(2, 4), 18);
    due("weak w99 in year 6", weak.jar(5, 4), 6);
  }

  private static void when() {
    part = "promise 6, WHEN";
    JamDays x = read("p09,p06,p00,j99,g11,w99");
    int[] at0 = {1, 1, 0, 0, 0, 0};
    int[] at1 = {0, 0, 0, 0, 0, 0};
    for (int j = 0; j < 6; j++) due("jar(" + j + ", 7) in year 0", x.jar(j, 7), at0[j]);
    x.year();
    for (int j = 0; j < 6; j++) due("jar(" + j + ", 7) in year 1", x.jar(j, 7), at1[j]);
    x.eat(0);
    x.eat(0);
    x.eat(0);
    x.eat(0);
    due("jar(0, 7) is as if none was eaten", x.jar(0, 7), 0);
    years(x, 97);
    due("jar(0, 7) in year 98", x.jar(0, 7), 1);
    due("jar(2, 7) in year 98, at most mould", x.jar(2, 7), 1);
    x.year();
    due("jar(0, 7) in year 99", x.jar(0, 7), 0);
    JamDays late = read("p00,p39");
    years(late, 6);
    due("jar(0, 7): -18, then 3 less 20", late.jar(0, 7), 1);
  }

  private static void as() {
    part = "promise 7";
    JamDays x = read("j11,w11,c11,p11,g11");
    int[][] is = {{0}, {0, 1}, {0, 2}, {0, 3}, {0, 2, 4}};
    for (int j = 0; j < 5; j++) {
      for (int kind = 0; kind < 5; kind++) {
        int want = JamDays.NONE;
        for (int own : is[j]) if (own == kind) want = j;
        due("as(" + j + ", " + kind + ")", x.as(j, kind), want);
      }
    }
    JamDays y = read("g11,c11,j11");
    due("as(0, 2) of gold", y.as(0, 2), 0);
    due("as(1, 4) of copper", y.as(1, 4), JamDays.NONE);
    due("as(2, 0) of a jar", y.as(2, 0), 2);
    long h = x.digest();
    refused(x, "as(5, 0)", h, x.as(5, 0), JamDays.UNKNOWN);
    refused(x, "as(-1, 9)", h, x.as(-1, 9), JamDays.UNKNOWN);
    refused(x, "as(0, 5)", h, x.as(0, 5), JamDays.OUTSIDE);
    refused(x, "as(0, -1)", h, x.as(0, -1), JamDays.OUTSIDE);
    refused(x, "as(0, MIN)", h, x.as(0, Integer.MIN_VALUE), JamDays.OUTSIDE);
  }

  private static void worth() {
    part = "promise 8";
    JamDays x = read("j74,w52,c60,p83,g31,j00");
    int[][] dues = {
      // year 0, 1, 2, 3, 99
      {107, 105, 103, 101, 87}, {105, 101, 97, 93, 85}, {106, 106, 106, 106, 106},
      {108, 109, 104, 105, 91}, {106, 106, 106, 106, 106}, {100, 97, 94, 91, 80}};
    int[] at = {0, 1, 2, 3, 99};
    for (int j = 0; j < 6; j++)
      for (int i = 0; i < 5; i++) due("worth(" + j + ", " + at[i] + ")", x.worth(j, at[i]), dues[j][i]);
    x.eat(0);
    years(x, 2);
    x.eat(0);
    due("worth(0, 0) whatever is eaten, in year 2", x.worth(0, 0), 107);
    due("worth(0, 2)", x.worth(0, 2), 103);
    long h = x.digest();
    refused(x, "worth(0, -1)", h, x.worth(0, -1), JamDays.OUTSIDE);
    refused(x, "worth(0, 100)", h, x.worth(0, 100), JamDays.OUTSIDE);
    refused(x, "worth(6, 100)", h, x.worth(6, 100), JamDays.UNKNOWN);
    refused(x, "worth(-1, 0)", h, x.worth(-1, 0), JamDays.UNKNOWN);
  }

  private static void eat() {
    part = "promise 9";
    JamDays x = read("g90,j10,c50");
    due("eat(0)", x.eat(0), 118);
    due("eat(0)", x.eat(0), 117);
    due("eat(1)", x.eat(1), 101);
    due("eat(1)", x.eat(1), 100);
    due("eat(1)", x.eat(1), 99);
    due("count(3)", x.count(3), 2000 + 18 + 17 + 1 - 1);
    due("count(5)", x.count(5), 5);
    due("count(6)", x.count(6), 0);
    due("jar(0, 3)", x.jar(0, 3), 10);
    due("jar(2, 3)", x.jar(2, 3), 12);
    x.year();
    due("eat(0) in the next year", x.eat(0), 118);
    due("eat(1) in the next year", x.eat(1), 98);
    x.wasps(0);
    due("eat(0) after wasps", x.eat(0), 117);
    for (int i = 0; i < 12; i++) due("eat(2)", x.eat(2), 105 - i);
    long h = x.digest();
    refused(x, "eat(2) of none", h, x.eat(2), JamDays.STATE);
    refused(x, "eat(3)", h, x.eat(3), JamDays.UNKNOWN);
    refused(x, "eat(-1)", h, x.eat(-1), JamDays.UNKNOWN);
    refused(x, "eat(MAX)", h, x.eat(Integer.MAX_VALUE), JamDays.UNKNOWN);
    x.year();
    due("eat(2) of none in the next year", x.eat(2), JamDays.STATE);
  }

  private static void wasps() {
    part = "promise 10";
    JamDays x = read("j90,c50");
    for (int i = 11; i >= 0; i--) due("wasps(1)", x.wasps(1), i);
    long h = x.digest();
    refused(x, "wasps(1) of none", h, x.wasps(1), JamDays.STATE);
    refused(x, "wasps(2)", h, x.wasps(2), JamDays.UNKNOWN);
    refused(x, "wasps(-1)", h, x.wasps(-1), JamDays.UNKNOWN);
    due("eat(1)", x.eat(1), JamDays.STATE);
    due("count(3): nobody's joy", x.count(3), 2000);
    due("count(5): not eaten", x.count(5), 0);
    due("count(6)", x.count(6), 12);
    due("jar(1, 6)", x.jar(1, 6), 0);
    due("jar(1, 5)", x.jar(1, 5), 105);
    due("jar(0, 3)", x.jar(0, 3), 12);
  }

  private static void year() {
    part = "promise 11";
    JamDays x = read("j90,c50");
    x.eat(1);
    for (int i = 1; i <= 99; i++) due("year()", x.year(), i);
    long h = x.digest();
    refused(x, "year() in year 99", h, x.year(), JamDays.FULL);
    due("count(1)", x.count(1), 99);
    due("jar(1, 6)", x.jar(1, 6), 0);
    due("jar(1, 3)", x.jar(1, 3), 11);
    due("count(3)", x.count(3), 2005);
  }

  private static void bests(JamDays x, int spoons, int... dues) {
    due("best(" + spoons + ", 0)", x.best(spoons, 0), dues[0]);
    for (int i = 1; i < dues.length; i++) due("best(" + spoons + ", " + (9 + i) + ")", x.best(spoons, 9 + i), dues[i]);
  }

  private static void best() {
    part = "promise 12";
    JamDays x = read("c90,c90");
    bests(x, 0, 1000, 0, 0, -1, -1, -1, -1);
    bests(x, 1, 1009, 0, 1, -1);
    bests(x, 2, 1018, 1, 1);
    bests(x, 3, 1026, 1, 2);
    x.eat(1);
    bests(x, 1, 1009, 1, 0);
    // 9 and 8 and 8: of like ones as few of jar 0 as can be
    bests(x, 2, 1017, 1, 1);
    JamDays g = read("j10,g50,c90");
    // gold 10 9 8 7 .., copper 9 8 7 ..
    bests(g, 1, 1010, 0, 1, 0);
    bests(g, 2, 1019, 0, 1, 1);
    bests(g, 4, 1036, 0, 2, 2);
    bests(g, 12, 1000 + 10 + 9 + 9 + 8 + 8 + 7 + 7 + 6 + 6 + 5 + 5 + 4, 0, 6, 6);
    // what is worth less than nothing is eaten, too
    JamDays low = read("j00,j10");
    bests(low, 4, 1000 + 1 + 0 + 0 - 1, 1, 3);
    for (int i = 0; i < 12; i++) low.wasps(1);
    bests(low, 4, 1000 - 6, 4, 0);
    for (int i = 0; i < 9; i++) low.wasps(0);
    bests(low, 3, 1000 - 3, 3, 0);
    bests(low, 4, JamDays.NONE, JamDays.NONE, JamDays.NONE);
    bests(low, 0, 1000, 0, 0);
    due("count(10)", low.count(10), 15);
    JamDays few = read("c90,c50");
    for (int i = 0; i < 10; i++) few.wasps(0);
    bests(few, 4, 1009 + 8 + 5 + 4, 2, 2);
    JamDays six = read("c90,c80,c70,c60,c50,c40");
    bests(six, 6, 1000 + 9 + 8 + 8 + 7 + 7 + 7, 3, 2, 1, 0, 0, 0);
    // 9 8, 8 and one of three that are worth 7: of jar 0 the third, of jar 1 the second, of jar 2 the first
    bests(six, 4, 1000 + 9 + 8 + 8 + 7, 2, 1, 1, 0, 0, 0);
    long h = six.digest();
    refused(six, "best(-1, 0)", h, six.best(-1, 0), JamDays.OUTSIDE);
    refused(six, "best(13, 0)", h, six.best(13, 0), JamDays.OUTSIDE);
    refused(six, "best(1, 1)", h, six.best(1, 1), JamDays.OUTSIDE);
    refused(six, "best(1, 9)", h, six.best(1, 9), JamDays.OUTSIDE);
    refused(six, "best(1, 16)", h, six.best(1, 16), JamDays.OUTSIDE);
    refused(six, "best(1, -1)", h, six.best(1, -1), JamDays.OUTSIDE);
    due("best(0, 0) without a larder", new JamDays().best(0, 0), JamDays.STATE);
    due("best(13, 0) without a larder", new JamDays().best(13, 0), JamDays.OUTSIDE);
  }

  private static void bestLimit() {
    part = "promise 12, 40 times";
    JamDays x = read("c90,c80");
    x.image();
    for (int i = 1; i <= 20; i++) {
      due("best(1, 0)", x.best(1, 0), 1009);
      x.best(14, 0);
      x.best(1, 3);
    }
    x.restore();
    due("count(10) counts on", x.count(10), 20);
    for (int i = 0; i < 12; i++) x.wasps(0);
    for (int i = 0; i < 12; i++) x.wasps(1);
    for (int i = 0; i < 5; i++) due("best(1, 0) of none", x.best(1, 0), JamDays.NONE);
    write(x, "c70,c60,j00");
    x.larder();
    due("count(10) counts on", x.count(10), 25);
    for (int i = 26; i <= 40; i++) due("best(1, 15): there is none such", x.best(1, 15), JamDays.NONE);
    long h = x.digest();
    refused(x, "best(1, 0) the 41st time", h, x.best(1, 0), JamDays.STATE);
    refused(x, "best(1, 7) the 41st time", h, x.best(1, 7), JamDays.OUTSIDE);
    due("count(10)", x.count(10), 40);
    write(x, "c70,c60");
    x.larder();
    due("best(0, 0) ever", x.best(0, 0), JamDays.STATE);
  }

  private static void taste() {
    part = "promise 13";
    JamDays x = new JamDays();
    due("taste(0, -20) without a larder", x.taste(0, -20), 1);
    due("taste(99, 30)", x.taste(99, 30), 2);
    long h = x.digest();
    refused(x, "taste(-1, 0)", h, x.taste(-1, 0), JamDays.OUTSIDE);
    refused(x, "taste(100, 0)", h, x.taste(100, 0), JamDays.OUTSIDE);
    refused(x, "taste(0, -21)", h, x.taste(0, -21), JamDays.OUTSIDE);
    refused(x, "taste(0, 31)", h, x.taste(0, 31), JamDays.OUTSIDE);
    for (int i = 3; i <= 6; i++) due("taste(0, 0) again", x.taste(0, 0), i);
    h = x.digest();
    refused(x, "taste(0, 0), the 7th", h, x.taste(0, 0), JamDays.FULL);
    refused(x, "taste(0, 31), the 7th", h, x.taste(0, 31), JamDays.OUTSIDE);
    due("count(7)", x.count(7), 6);
  }

  private static void forget() {
    part = "promise 14";
    JamDays x = read("c90,c80");
    x.taste(0, 9);
    x.taste(1, 9);
    due("which()", x.which(), 1);
    due("forget()", x.forget(), 2);
    due("forget() again", x.forget(), 0);
    due("which()", x.which(), 3);
    due("taste(0, 8)", x.taste(0, 8), 1);
    due("which()", x.which(), 2);
  }

  private static void which() {
    part = "promise 15";
    JamDays x = read("j90,w90,c90,p60,g40,j99");
    due("which()", x.which(), 63);
    x.taste(0, 9);
    due("which() by 9 in year 0", x.which(), 1 + 2 + 4 + 32);
    x.taste(1, 6);
    due("which() by 6 in year 1", x.which(), 1);
    x.taste(2, 4);
    due("which() by 4 in year 2", x.which(), 0);
    x.forget();
    x.taste(1, 6);
    due("which() by 6 in year 1 alone", x.which(), 1 + 8);
    x.forget();
    x.taste(7, 8);
    for (int i = 0; i < 12; i++) x.wasps(4);
    x.year();
    due("which() whatever is left, in any year", x.which(), 16);
    x.forget();
    x.taste(99, -11);
    due("which() at most mould", x.which(), 1 + 2 + 8);
    x.forget();
    x.taste(99, -20);
    due("which() of none", x.which(), 0);
  }

  private static void tasteNext() {
    part = "promise 16";
    JamDays x = read("j90,c90");
    due("tasteNext(): they differ from year 1 on", x.tasteNext(), 1);
    x.year();
    due("tasteNext() in year 1", x.tasteNext(), 0);
    x.taste(0, 9);
    due("tasteNext() of both", x.tasteNext(), 0);
    x.taste(1, 9);
    due("tasteNext() of one", x.tasteNext(), 0);
    x.taste(1, 8);
    due("tasteNext() of none", x.tasteNext(), JamDays.NONE);
    due("tasteNext() of two alike", read("c90,c90").tasteNext(), 0);
    // worst of year 0: 3 alike; of year 1: 9, 7, 6 and 8: 1; the first such
    due("tasteNext() of four", read("c90,j93,j90,c80").tasteNext(), 1);
    due("tasteNext() of six alike", read("c50,c50,c50,c50,c50,c50").tasteNext(), 0);
    // two are alike in each of the years 0 to 8, none in year 9
    due("tasteNext() of the last year", read("p93,p32,w07,g09,j30,g16").tasteNext(), 9);
    // none are alike in year 10, which is not looked at
    due("tasteNext() ends ahead of year 10", read("w51,p14,w92,g27,w47").tasteNext(), 0);
    // with mould 1 and 0 a year they are 3 apart, alike in year 3 and never else
    JamDays apart = read("j66,j39");
    due("tasteNext() of those apart", apart.tasteNext(), 0);
    years(apart, 3);
    due("tasteNext() of those alike now", apart.tasteNext(), 1);
    JamDays late = read("p00,j00");
    years(late, 98);
    due("tasteNext() as if they went on above 99", late.tasteNext(), 1);
    JamDays even = read("p99,c90");
    years(even, 99);
    due("tasteNext() in year 99", even.tasteNext(), 0);
    // only what can be still counts: j90 is gone by its taste
    JamDays open = read("j90,c80,c80,p80,j86");
    open.taste(0, 8);
    due("which()", open.which(), 2 + 4 + 8 + 16);
    due("tasteNext() of what is left: 8 8 8 7 in year 1, 8 8 2 6 in year 2", open.tasteNext(), 2);
  }

  private static void times() {
    part = "promise 17";
    JamDays x = read("c90,c50");
    // seed 0: 12345, draw 0; then 1406932606, draw 21468 of 2: 0
    due("times(1, 0, 2)", x.times(1, 0, 2), 1406932606);
    due("times(1, 0, 0)", x.times(1, 0, 0), 22);
    due("times(1, 0, 1)", x.times(1, 0, 1), 2009);
    due("times(1, MAX, 2)", x.times(1, Integer.MAX_VALUE, 2), 288979989);
    x.eat(0);
    x.eat(0);
    due("times(1, 0, 1) with joy of now and two eaten in this year", x.times(1, 0, 1), 2000 + 9 + 8 + 7);
    due("times(1, 0, 0)", x.times(1, 0, 0), 20);
    long h = x.digest();
    x.times(60, 5, 0);
    due("times() changes nothing", x.digest(), h);
    due("jar(0, 6)", x.jar(0, 6), 2);
    for (int i = 0; i < 10; i++) x.wasps(0);
    for (int i = 0; i < 12; i++) x.wasps(1);
    due("times(60, 1, 0) of none", x.times(60, 1, 0), 0);
    due("times(60, 1, 1) of none", x.times(60, 1, 1), 2017);
    due("times(1, 0, 2) of none draws all the same", x.times(1, 0, 2), 1406932606);
    x.year();
    h = x.digest();
    refused(x, "times(0, 0, 0)", h, x.times(0, 0, 0), JamDays.OUTSIDE);
    refused(x, "times(61, 0, 0)", h, x.times(61, 0, 0), JamDays.OUTSIDE);
    refused(x, "times(1, -1, 0)", h, x.times(1, -1, 0), JamDays.OUTSIDE);
    refused(x, "times(1, MIN, 0)", h, x.times(1, Integer.MIN_VALUE, 0), JamDays.OUTSIDE);
    refused(x, "times(1, 0, 3)", h, x.times(1, 0, 3), JamDays.OUTSIDE);
    refused(x, "times(1, 0, -1)", h, x.times(1, 0, -1), JamDays.OUTSIDE);
    due("times(0, 0, 0) without a larder", new JamDays().times(0, 0, 0), JamDays.OUTSIDE);
    // draws of 3 by seed 0: 0 0, 1 1, 0 1, 1 1; jar 1 is worth 5, 2 and -1 in years 1, 2 and 3
    JamDays three = read("j90,j80,j70");
    int[] joys = {2009, 2014, 2016, 2015};
    for (int n = 1; n <= 4; n++) {
      due("times(" + n + ", 0, 0) of three", three.times(n, 0, 0), 36 - 2 * n);
      due("times(" + n + ", 0, 1) of three", three.times(n, 0, 1), joys[n - 1]);
    }
    due("times(4, 0, 2) of three", three.times(4, 0, 2), 1293799192);
    // one spoon in jar 0: the wasps come ahead of the one who eats
    JamDays last = read("c90,c50");
    for (int i = 0; i < 11; i++) last.wasps(0);
    due("times(1, 0, 1), the wasps come first", last.times(1, 0, 1), 2000);
    due("times(1, 0, 0)", last.times(1, 0, 0), 12);
    // plum in year 99, and one year on: wasps and eater take of jar 0 as above
    JamDays plum = read("p00,p00");
    years(plum, 99);
    due("times(1, 0, 1) in year 99", plum.times(1, 0, 1), 2000 - 17);
    due("count(1)", plum.count(1), 99);
  }

  private static void image() {
    part = "promise 18";
    JamDays x = read("c90,c50");
    due("image() in year 0", x.image(), 0);
    years(x, 2);
    due("restore()", x.restore(), 0);
    years(x, 3);
    due("image() in year 3", x.image(), 3);
    years(x, 4);
    due("restore() of the latest", x.restore(), 3);
    due("restore() again", x.restore(), 3);
    due("image() without a larder", new JamDays().image(), JamDays.STATE);
  }

  private static void restore() {
    part = "promise 19";
    JamDays x = read("c90,g50,j33");
    due("restore() of none kept", x.restore(), JamDays.STATE);
    x.taste(1, 9);
    x.image();
    x.forget();
    x.taste(0, 3);
    due("which() ahead of restore()", x.which(), 4);
    x.restore();
    due("which() after restore()", x.which(), 1);
    x.forget();
    x.eat(0);
    x.year();
    x.eat(0);
    x.eat(0);
    x.eat(1);
    x.wasps(2);
    x.taste(0, 9);
    x.image();
    long h = x.digest();
    x.eat(0);
    x.eat(2);
    x.wasps(1);
    x.year();
    x.eat(0);
    x.forget();
    x.taste(1, 3);
    x.taste(2, 3);
    write(x, "zz");
    due("restore()", x.restore(), 1);
    due("count(8): the page is as it was", x.blank(), 2);
    due("digest() after restore()", x.digest(), h);
    due("jar(0, 6)", x.jar(0, 6), 2);
    due("eat(0) goes on", x.eat(0), 107);
    due("count(3)", x.count(3), 2000 + 9 + 9 + 8 + 10 + 7);
    due("which()", x.which(), 1);
    x.restore();
    due("digest() after the second restore()", x.digest(), h);
    x.best(1, 0);
    x.restore();
    due("count(10) counts on", x.count(10), 1);
    write(x, "c90,g50,j33");
    x.larder();
    long read = x.digest();
    refused(x, "restore() after the same text is read", read, x.restore(), JamDays.STATE);
    due("image()", x.image(), 0);
    due("restore()", x.restore(), 0);
    due("count(9) counts on", x.count(9), 2);
  }

  private static void count() {
    part = "promise 20";
    JamDays x = read("c90,g50,j33");
    x.eat(0);
    x.eat(1);
    x.wasps(1);
    x.year();
    for (int i = 0; i < 12; i++) x.wasps(2);
    x.taste(1, 1);
    x.best(2, 0);
    x.best(2, 10);
    write(x, "jjjj");
    int[] dues = {3, 1, 11 + 10 + 0, 2019, 1, 2, 13, 1, 4, 1, 2};
    for (int what = 0; what <= 10; what++) due("count(" + what + ")", x.count(what), dues[what]);
    for (int i = 0; i < 12; i++) x.eat(2);
    for (int i = 0; i < 11; i++) x.eat(0);
    due("count(4)", x.count(4), 2);
    long h = x.digest();
    refused(x, "count(-1)", h, x.count(-1), JamDays.OUTSIDE);
    refused(x, "count(11)", h, x.count(11), JamDays.OUTSIDE);
    refused(x, "count(MAX)", h, x.count(Integer.MAX_VALUE), JamDays.OUTSIDE);
  }

  private static long fold(long... told) {
    long h = 1031;
    for (long each : told) h = 31 * h + each;
    return h;
  }

  private static void digest() {
    part = "promise 21";
    JamDays x = new JamDays();
    due("digest()", x.digest(), fold(0, 0, 0, 2000, 0, 0, 0, 0, 0, 0, 0));
    x.taste(0, 9);
    write(x, "g4");
    due("digest() with a page", x.digest(), fold('g', '4', 0, 0, 0, 2000, 0, 0, 0, 1, 2, 0, 0));
    x.blank();
    write(x, "g47,p03");
    x.larder();
    x.eat(0);
    x.taste(0, 8);
    x.letter(7);
    x.best(0, 0);
    due("digest() with a larder", x.digest(), fold(
        4, 4, 7, 11, 0, 107, 1, 0, 108, 108,
        3, 0, 3, 12, 0, 100, 0, 1, 101, 96,
        1, 0,
        7,
        2, 0, 23, 2008, 0, 1, 0, 1, 1, 1, 1));
    due("digest() changes nothing", x.digest(), x.digest());
    x.taste(0, 7);
    due("digest() if none can be", x.digest(), fold(
        4, 4, 7, 11, 0, 107, 1, 0, 108, 108,
        3, 0, 3, 12, 0, 100, 0, 1, 101, 96,
        0, -1,
        7,
        2, 0, 23, 2008, 0, 1, 0, 2, 1, 1, 1));
  }
}
