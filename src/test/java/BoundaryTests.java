import java.math.BigInteger;
import java.util.ArrayList;
import java.util.List;

// Every sentence of the document that names a boundary, each in a block of its own that begins with it:
// too small, too large, empty, full, a wrap-around, a refused call. The dues are worked out by hand.
public final class BoundaryTests {
  private static final int MIN = Integer.MIN_VALUE, MAX = Integer.MAX_VALUE;
  private static final String SIX = "j00,w11,c22,p33,g44,j55";
  private static int wrong = 0;
  private static int blocks = 0;
  private static String sentence = "";

  private static void says(String text) {
    sentence = text;
    blocks++;
  }

  private static void due(String call, long got, long want) {
    if (got != want) {
      wrong++;
      System.out.println(sentence + ": " + call + " answered " + got + ", due is " + want);
    }
  }

  private static JamDays write(JamDays x, String text) {
    for (int i = 0; i < text.length(); i++) x.letter(text.charAt(i));
    return x;
  }

  private static JamDays page(String text) {
    return write(new JamDays(), text);
  }

  private static JamDays read(String text) {
    JamDays x = page(text);
    x.larder();
    return x;
  }

  private static JamDays inYear(int year, String text) {
    JamDays x = read(text);
    for (int i = 0; i < year; i++) x.year();
    return x;
  }

  private static void eat(JamDays x, int jar, int spoons) {
    for (int i = 0; i < spoons; i++) x.eat(jar);
  }

  private static void wasps(JamDays x, int jar, int spoons) {
    for (int i = 0; i < spoons; i++) x.wasps(jar);
  }

  private static void taste(JamDays x, int year, int worth, int times) {
    for (int i = 0; i < times; i++) x.taste(year, worth);
  }

  private static void counts(JamDays x, int... dues) {
    for (int what = 0; what < dues.length; what++) due("count(" + what + ")", x.count(what), dues[what]);
  }

  private static void bests(JamDays x, int spoons, int... dues) {
    due("best(" + spoons + ", 0)", x.best(spoons, 0), dues[0]);
    for (int i = 1; i < dues.length; i++) due("best(" + spoons + ", " + (9 + i) + ")", x.best(spoons, 9 + i), dues[i]);
  }

  public static void main(String[] args) {
    jarsOfLarder();
    lettersOfLarder();
    yearsAndSpoons();
    mould();
    worths();
    letter();
    blank();
    fault();
    larder();
    larderAnew();
    jar();
    when();
    as();
    worth();
    eatAndJoy();
    waspsTake();
    year();
    bestSpoons();
    bestWhat();
    bestOfLikeOnes();
    bestFortyTimes();
    tasted();
    forget();
    which();
    tasteNext();
    tasteNextYears();
    timesArguments();
    timesOfWhatThereIs();
    timesAboveYear99();
    timesDraws();
    image();
    imageKeeps();
    restore();
    count();
    digest();
    longRun();
    RefusedCalls.all();
    System.out.println(wrong == 0 ? "all " + blocks + " blocks hold" : wrong + " answers are not as due");
    if (wrong != 0) System.exit(1);
  }

  // ---- Terms, 1: the larder

  private static void noLarder(String text, int fault) {
    JamDays x = page(text);
    due("fault() of " + text, x.fault(), fault);
    due("larder() of " + text, x.larder(), JamDays.STATE);
    due("count(0)", x.count(0), 0);
    due("count(9)", x.count(9), 0);
    due("blank(): the page stays", x.blank(), text.length());
  }

  private static void larder(String text, int jars) {
    JamDays x = page(text);
    due("fault() of " + text, x.fault(), text.length());
    due("larder() of " + text, x.larder(), jars);
    due("count(0)", x.count(0), jars);
    due("jar(" + (jars - 1) + ", 3)", x.jar(jars - 1, 3), 12);
    due("jar(" + jars + ", 3)", x.jar(jars, 3), JamDays.UNKNOWN);
  }

  private static void jarsOfLarder() {
    says("two to six JARS: none is too few");
    noLarder("", 0);
    says("two to six JARS: one is too few");
    noLarder("j00", 3);
    says("two to six JARS: two are enough");
    larder("j00,w11", 2);
    says("two to six JARS: those between");
    larder("j00,w11,c22", 3);
    larder("j00,w11,c22,p33", 4);
    larder("j00,w11,c22,p33,g44", 5);
    says("two to six JARS: six are not too many");
    larder(SIX, 6);
    says("two to six JARS: a seventh is too many");
    noLarder(SIX + ",", 23);
    noLarder(SIX + ",j", 23);
    says("with ',' between: not ahead of the first");
    noLarder(",j00,w11", 0);
    says("with ',' between: not behind the last");
    noLarder("j00,", 4);
    noLarder("j00,w11,", 8);
    says("with ',' between: not none");
    noLarder("j00w11", 3);
    says("with ',' between: not two");
    noLarder("j00,,w11", 4);
    says("each a letter and two digits: not cut short");
    noLarder("j00,w", 5);
    noLarder("j00,w1", 6);
    noLarder("j0,w11", 2);
    noLarder("j,w11", 1);
    says("each a letter and two digits: not three digits");
    noLarder("j000,w11", 3);
    says("each a letter and two digits: not two letters");
    noLarder("jj00,w11", 1);
    says("each a letter and two digits: not without the letter");
    noLarder("00,w11", 0);
  }

  private static boolean isAllowed(int place, int code) {
    if (place % 4 == 0) return "jwcpg".indexOf(code) >= 0;
    return place % 4 == 3 ? code == 44 : code >= 48 && code <= 57;
  }

  private static void lettersOfLarder() {
    says("a letter, the KIND, and two digits (0 to 9): all codes at all places");
    for (int place = 0; place < 23; place++) {
      for (int code = 1; code <= 126; code++) {
        JamDays x = page(SIX.substring(0, place));
        x.letter(code);
        due("fault() of code " + code + " at " + place, x.fault(), isAllowed(place, code) ? place + 1 : place);
      }
    }
    says("how GOOD the day was (0 to 9), SUGAR (0 to 9)");
    for (int good = 0; good <= 9; good++) {
      for (int sugar = 0; sugar <= 9; sugar++) {
        String each = "p" + good + sugar;
        JamDays x = read("c55," + each);
        due("jar(1, 1) of " + each, x.jar(1, 1), good);
        due("jar(1, 2) of " + each, x.jar(1, 2), sugar);
      }
    }
    says("KINDS are told by the letter: 0 to 4, of the last JAR as of the first");
    for (int kind = 0; kind <= 4; kind++) {
      String each = "jwcpg".charAt(kind) + "55";
      JamDays x = read(each + ",j00,j00,j00,j00," + each);
      due("jar(0, 0) of " + each, x.jar(0, 0), kind);
      due("jar(5, 0) of " + each, x.jar(5, 0), kind);
    }
  }

  private static void yearsAndSpoons() {
    says("it is YEAR 0, of each JAR there are 12 SPOONS");
    JamDays x = read(SIX);
    due("count(1)", x.count(1), 0);
    for (int j = 0; j < 6; j++) due("jar(" + j + ", 3)", x.jar(j, 3), 12);
    due("count(2)", x.count(2), 72);
  }

  private static void mouldsInYear1(String kind, int... dues) {
    for (int sugar = 0; sugar <= 9; sugar++) {
      String each = kind + "5" + sugar;
      due("jar(1, 4) of " + each + " in year 1", inYear(1, "j00," + each).jar(1, 4), dues[sugar]);
    }
  }

  private static void mouldIn(int year, String each, int want) {
    due("jar(1, 4) of " + each + " in year " + year, inYear(year, "j00," + each).jar(1, 4), want);
  }

  private static void mould() {
    says("MOULDS by 3, less 1 for each 3 of SUGAR (rounded down; not below 0)");
    mouldsInYear1("j", 3, 3, 3, 2, 2, 2, 1, 1, 1, 0);
    says("a WEAK one by 1 more");
    mouldsInYear1("w", 4, 4, 4, 3, 3, 3, 2, 2, 2, 1);
    says("a COPPER one not at all");
    mouldsInYear1("c", 0, 0, 0, 0, 0, 0, 0, 0, 0, 0);
    says("a PLUM one as all JARS");
    mouldsInYear1("p", 3, 3, 3, 2, 2, 2, 1, 1, 1, 0);
    says("a GOLD one is a COPPER one, too: it does not MOULD");
    mouldsInYear1("g", 0, 0, 0, 0, 0, 0, 0, 0, 0, 0);
    says("MOULD is 0 in YEAR 0");
    for (String each : new String[] {"j50", "w50", "c50", "p50", "g50"}) mouldIn(0, each, 0);
    says("MOULD is 20 at most: by 3 it would be 21");
    mouldIn(6, "j50", 18);
    mouldIn(7, "j50", 20);
    mouldIn(8, "j50", 20);
    says("MOULD is 20 at most: by 4 it is just 20");
    mouldIn(4, "w50", 16);
    mouldIn(5, "w50", 20);
    mouldIn(6, "w50", 20);
    says("MOULD is 20 at most: by 1, one YEAR below and above");
    mouldIn(19, "p58", 19);
    mouldIn(20, "p58", 20);
    mouldIn(21, "p58", 20);
    says("MOULD is 20 at most: in the last YEAR");
    mouldIn(99, "w50", 20);
    mouldIn(99, "w59", 20);
    mouldIn(99, "j59", 0);
    mouldIn(99, "g50", 0);
  }

  private static void worthIn(int year, String each, int want) {
    due("worth(1, " + year + ") of " + each, read("j00," + each).worth(1, year), want);
    due("jar(1, 5) of " + each + " in year " + year, inYear(year, "j00," + each).jar(1, 5), want);
  }

  private static void worths() {
    says("as much as the day was GOOD, less MOULD: below 0, too");
    worthIn(2, "j60", 100);
    worthIn(3, "j60", 97);
    worthIn(99, "w00", 80);
    says("of a PLUM one 3 more in YEARS that are odd: the first and the last of them, none that is even");
    worthIn(0, "p59", 105);
    worthIn(1, "p59", 108);
    worthIn(2, "p59", 105);
    worthIn(98, "p59", 105);
    worthIn(99, "p59", 108);
    worthIn(99, "p00", 83);
    worthIn(1, "p99", 112);
    says("of a GOLD one twice as much as of a COPPER one");
    worthIn(0, "c90", 109);
    worthIn(0, "g90", 118);
    worthIn(99, "g90", 118);
    worthIn(0, "g00", 100);
    worthIn(99, "g19", 102);
    says("each SPOON more is WORTH 1 less: of a GOLD one, too");
    JamDays gold = read("g10,j00");
    int[] golds = {102, 101, 100, 99, 98};
    for (int want : golds) due("eat(0)", gold.eat(0), want);
    says("each SPOON more that is eaten in the same YEAR: not in the next");
    gold.year();
    due("eat(0)", gold.eat(0), 102);
    says("each SPOON more of it: not of another JAR");
    due("eat(1)", gold.eat(1), 97);
    due("eat(0)", gold.eat(0), 101);
  }

  // ---- promises 2 to 5: the page

  private static void letter() {
    says("letter: code (1 to 126): 0 is too small");
    due("letter(0)", new JamDays().letter(0), JamDays.OUTSIDE);
    due("letter(-1)", new JamDays().letter(-1), JamDays.OUTSIDE);
    due("letter(MIN)", new JamDays().letter(MIN), JamDays.OUTSIDE);
    says("letter: code (1 to 126): 127 is too large");
    due("letter(127)", new JamDays().letter(127), JamDays.OUTSIDE);
    due("letter(MAX)", new JamDays().letter(MAX), JamDays.OUTSIDE);
    due("letter(65536 + 106)", new JamDays().letter(65536 + 106), JamDays.OUTSIDE);
    says("letter: code (1 to 126): 1 and 126 are letters");
    due("letter(1)", new JamDays().letter(1), 1);
    due("letter(126)", new JamDays().letter(126), 1);
    says("letter: FULL: above 25");
    JamDays x = new JamDays();
    for (int i = 1; i <= 25; i++) due("letter(120)", x.letter(120), i);
    due("letter(120), the 26th", x.letter(120), JamDays.FULL);
    due("count(8)", x.count(8), 25);
    says("letter: OUTSIDE is told ahead of FULL");
    due("letter(0)", x.letter(0), JamDays.OUTSIDE);
    due("letter(127)", x.letter(127), JamDays.OUTSIDE);
    says("letter: a refused one is not on THE PAGE");
    JamDays y = page("j0");
    y.letter(0);
    y.letter(127);
    due("letter(48)", y.letter(48), 3);
    due("fault()", y.fault(), 3);
    says("letter: 25 again behind an empty PAGE");
    x.blank();
    for (int i = 1; i <= 25; i++) due("letter(121)", x.letter(121), i);
    due("letter(121), the 26th", x.letter(121), JamDays.FULL);
    says("letter: 25 again behind a LARDER");
    JamDays z = read(SIX);
    for (int i = 1; i <= 25; i++) due("letter(1)", z.letter(1), i);
    due("letter(1), the 26th", z.letter(1), JamDays.FULL);
  }

  private static void blank() {
    says("blank: how many letters it had: none");
    due("blank()", new JamDays().blank(), 0);
    says("blank: how many letters it had: one");
    due("blank()", page("j").blank(), 1);
    says("blank: how many letters it had: all that it can have");
    JamDays x = page(SIX + ",j");
    due("blank()", x.blank(), 25);
    says("blank: THE PAGE is empty");
    due("blank()", x.blank(), 0);
    due("count(8)", x.count(8), 0);
    due("fault()", x.fault(), 0);
    due("larder()", x.larder(), JamDays.STATE);
    says("blank: what was on THE PAGE is not read behind it");
    write(x, "j00");
    due("larder()", x.larder(), JamDays.STATE);
  }

  private static void fault() {
    says("fault: how many letters it has, if there is none: of an empty PAGE");
    due("fault()", new JamDays().fault(), 0);
    says("fault: how many letters it has, if there is none: of a part of a LARDER");
    for (int n = 0; n <= SIX.length(); n++) due("fault()", page(SIX.substring(0, n)).fault(), n);
    says("fault: the place (from 0): the first letter of all");
    due("fault()", page("x").fault(), 0);
    says("fault: the first letter, not a later one");
    due("fault()", page("jx0,x").fault(), 1);
    says("fault: a LARDER of six has no letter behind it");
    due("fault()", page(SIX + ",").fault(), 23);
    due("fault()", page(SIX + ",x").fault(), 23);
    due("fault()", page(SIX + "j0").fault(), 23);
    says("fault: the last letter of a LARDER of six");
    due("fault()", page("j00,w11,c22,p33,g44,j5,").fault(), 22);
    says("fault: letters of code 1 and 126");
    due("fault()", page("j" + (char) 1).fault(), 1);
    due("fault()", page("j0" + (char) 126).fault(), 2);
    says("fault: it tells, and changes nothing");
    JamDays x = page("j00,x");
    due("fault()", x.fault(), 4);
    due("fault()", x.fault(), 4);
    due("count(8)", x.count(8), 5);
  }

  private static void larder() {
    says("larder: THE PAGE is empty then");
    JamDays x = page("j00,w11");
    due("larder()", x.larder(), 2);
    due("blank()", x.blank(), 0);
    due("larder() of an empty page", x.larder(), JamDays.STATE);
    says("larder: STATE: it is none: the LARDER ahead of it stays, with all that was");
    JamDays y = read("c90,c80,c70");
    y.eat(0);
    y.wasps(1);
    y.year();
    y.eat(1);
    y.taste(0, 9);
    write(y, "j00,w1");
    due("larder()", y.larder(), JamDays.STATE);
    counts(y, 3, 1, 33, 2017, 0, 2, 1, 1, 6, 1, 0);
    due("jar(1, 6)", y.jar(1, 6), 1);
    due("which()", y.which(), 1);
    says("larder: STATE: THE PAGE stays, and can be gone on with");
    y.letter('1');
    due("larder()", y.larder(), 2);
    says("larder: STATE: the IMAGE stays");
    JamDays z = inYear(3, "c90,c80");
    z.image();
    z.year();
    due("larder()", z.larder(), JamDays.STATE);
    due("restore()", z.restore(), 3);
  }

  private static void larderAnew() {
    says("larder: another one is gone, with all that was");
    JamDays x = read("c90,c80,c70");
    eat(x, 0, 3);
    wasps(x, 1, 12);
    x.year();
    x.taste(0, 1);
    write(x, "c60,c50");
    due("larder()", x.larder(), 2);
    counts(x, 2, 0, 24, 2000, 0, 0, 0, 0, 0, 2, 0);
    says("larder: gone are the JARS above those of the new one");
    due("jar(2, 0)", x.jar(2, 0), JamDays.UNKNOWN);
    due("eat(2)", x.eat(2), JamDays.UNKNOWN);
    says("larder: gone is what was eaten in this YEAR");
    eat(x, 0, 2);
    eat(x, 1, 1);
    write(x, "c60,c50,c40");
    due("larder()", x.larder(), 3);
    due("jar(0, 6)", x.jar(0, 6), 0);
    due("jar(1, 6)", x.jar(1, 6), 0);
    due("eat(0)", x.eat(0), 106);
    says("larder: of a larger one each JAR has 12 SPOONS");
    for (int j = 1; j < 3; j++) due("jar(" + j + ", 3)", x.jar(j, 3), 12);
    says("larder: what is TASTED is gone, too");
    taste(x, 0, 1, 6);
    write(x, "c60,c50");
    due("larder()", x.larder(), 2);
    due("which()", x.which(), 3);
    due("taste(0, 6)", x.taste(0, 6), 1);
    says("larder: what is TASTED is gone, also ahead of the first one");
    JamDays y = new JamDays();
    taste(y, 0, 1, 6);
    write(y, "c60,c50");
    due("larder()", y.larder(), 2);
    due("count(7)", y.count(7), 0);
    due("which()", y.which(), 3);
    says("larder: gone in YEAR 99, too");
    JamDays z = inYear(99, "c60,c50");
    write(z, "c60,c50");
    due("larder()", z.larder(), 2);
    due("year()", z.year(), 1);
  }

  // ---- promises 6 to 8: jars

  private static void jar() {
    JamDays x = read("c90,c80");
    says("jar: UNKNOWN: below JAR 0");
    due("jar(-1, 0)", x.jar(-1, 0), JamDays.UNKNOWN);
    due("jar(MIN, 0)", x.jar(MIN, 0), JamDays.UNKNOWN);
    says("jar: UNKNOWN: above the last JAR");
    due("jar(1, 1)", x.jar(1, 1), 8);
    due("jar(2, 1)", x.jar(2, 1), JamDays.UNKNOWN);
    due("jar(MAX, 1)", x.jar(MAX, 1), JamDays.UNKNOWN);
    says("jar: UNKNOWN: above the last of six JARS");
    due("jar(5, 1)", read(SIX).jar(5, 1), 5);
    due("jar(6, 1)", read(SIX).jar(6, 1), JamDays.UNKNOWN);
    says("jar: UNKNOWN: no LARDER");
    due("jar(0, 0)", new JamDays().jar(0, 0), JamDays.UNKNOWN);
    says("jar: OUTSIDE: below 0");
    due("jar(0, -1)", x.jar(0, -1), JamDays.OUTSIDE);
    due("jar(0, MIN)", x.jar(0, MIN), JamDays.OUTSIDE);
    says("jar: OUTSIDE: above 7");
    due("jar(0, 7)", x.jar(0, 7), 0);
    due("jar(0, 8)", x.jar(0, 8), JamDays.OUTSIDE);
    due("jar(0, MAX)", x.jar(0, MAX), JamDays.OUTSIDE);
    says("jar: UNKNOWN is told ahead of OUTSIDE");
    due("jar(2, 8)", x.jar(2, 8), JamDays.UNKNOWN);
    due("jar(-1, -1)", x.jar(-1, -1), JamDays.UNKNOWN);
    due("jar(0, 8) without a larder", new JamDays().jar(0, 8), JamDays.UNKNOWN);
    says("jar: how many SPOONS there are: all are eaten");
    eat(x, 0, 12);
    due("jar(0, 3)", x.jar(0, 3), 0);
    says("jar: how many were eaten in this YEAR: all");
    due("jar(0, 6)", x.jar(0, 6), 12);
    says("jar: how much the next SPOON is WORTH now (also if there is none)");
    due("jar(0, 5)", x.jar(0, 5), 97);
    wasps(x, 1, 12);
    due("jar(1, 5)", x.jar(1, 5), 108);
    x.year();
    due("jar(0, 5)", x.jar(0, 5), 109);
    says("jar: how much the next SPOON is WORTH now: least of all");
    JamDays weak = inYear(99, "w00,w00");
    eat(weak, 0, 12);
    due("jar(0, 5)", weak.jar(0, 5), 68);
  }

  private static void when(int year, String each, int want) {
    due("jar(1, 7) of " + each + " in year " + year, inYear(year, "j00," + each).jar(1, 7), want);
  }

  private static void when() {
    says("WHEN: the first such: all YEARS alike");
    when(0, "c90", 0);
    when(0, "g90", 0);
    when(0, "j99", 0);
    when(50, "w90", 0);
    says("WHEN: the first such: now and the next are alike");
    when(0, "p90", 0);
    when(2, "p90", 0);
    says("WHEN: the next YEAR is WORTH 1 more");
    when(0, "p93", 1);
    when(6, "p90", 1);
    says("WHEN: of all that are odd the first");
    when(0, "p99", 1);
    when(1, "p99", 0);
    says("WHEN: it is less in each YEAR: now");
    when(0, "w90", 0);
    when(0, "j98", 0);
    says("WHEN: MOULD is 20 at most: all YEARS that are odd are alike");
    when(8, "p00", 1);
    when(9, "p00", 0);
    says("WHEN: as if none was eaten in it");
    JamDays x = inYear(1, "p99,c90");
    eat(x, 0, 5);
    eat(x, 1, 5);
    due("jar(0, 7)", x.jar(0, 7), 0);
    due("jar(1, 7)", x.jar(1, 7), 0);
    says("WHEN: also if there is none");
    wasps(x, 0, 7);
    x.year();
    due("jar(0, 3)", x.jar(0, 3), 0);
    due("jar(0, 7)", x.jar(0, 7), 1);
    says("WHEN: as if they went on above 99");
    when(98, "p00", 1);
    when(99, "p00", 0);
    when(99, "p99", 0);
    when(99, "w00", 0);
  }

  private static void as() {
    JamDays x = read("j11,w11,c11,p11,g11");
    says("as: all are JARS");
    for (int j = 0; j < 5; j++) due("as(" + j + ", 0)", x.as(j, 0), j);
    says("as: a GOLD one is a COPPER one, too");
    due("as(4, 2)", x.as(4, 2), 4);
    due("as(4, 4)", x.as(4, 4), 4);
    says("as: NONE: a COPPER one is no GOLD one");
    due("as(2, 4)", x.as(2, 4), JamDays.NONE);
    says("as: NONE: it is none such");
    int[][] none = {{0, 1}, {0, 2}, {0, 3}, {0, 4}, {1, 2}, {1, 3}, {1, 4}, {2, 1}, {2, 3}, {3, 1}, {3, 2}, {3, 4},
        {4, 1}, {4, 3}};
    for (int[] each : none) due("as(" + each[0] + ", " + each[1] + ")", x.as(each[0], each[1]), JamDays.NONE);
    says("as: its own number, not that of the KIND");
    JamDays y = read("g11,j11,p11,c11,w11");
    int[] kinds = {4, 0, 3, 2, 1};
    for (int j = 0; j < 5; j++) due("as(" + j + ", " + kinds[j] + ")", y.as(j, kinds[j]), j);
    due("as(0, 2)", y.as(0, 2), 0);
    says("as: OUTSIDE: a KIND below 0");
    due("as(0, -1)", x.as(0, -1), JamDays.OUTSIDE);
    due("as(0, MIN)", x.as(0, MIN), JamDays.OUTSIDE);
    says("as: OUTSIDE: a KIND above 4");
    due("as(0, 5)", x.as(0, 5), JamDays.OUTSIDE);
    due("as(0, MAX)", x.as(0, MAX), JamDays.OUTSIDE);
    says("as: UNKNOWN: no such JAR");
    due("as(-1, 0)", x.as(-1, 0), JamDays.UNKNOWN);
    due("as(5, 0)", x.as(5, 0), JamDays.UNKNOWN);
    due("as(MIN, 0)", x.as(MIN, 0), JamDays.UNKNOWN);
    due("as(MAX, 0)", x.as(MAX, 0), JamDays.UNKNOWN);
    due("as(0, 0) without a larder", new JamDays().as(0, 0), JamDays.UNKNOWN);
    says("as: UNKNOWN is told ahead of OUTSIDE");
    due("as(5, 5)", x.as(5, 5), JamDays.UNKNOWN);
    due("as(-1, -1)", x.as(-1, -1), JamDays.UNKNOWN);
  }

  private static void worth() {
    JamDays x = read("p59,j60");
    says("worth: year (0 to 99): the first and the last");
    due("worth(0, 0)", x.worth(0, 0), 105);
    due("worth(0, 99)", x.worth(0, 99), 108);
    due("worth(1, 99)", x.worth(1, 99), 86);
    says("worth: year (0 to 99): -1 is too small");
    due("worth(0, -1)", x.worth(0, -1), JamDays.OUTSIDE);
    due("worth(0, MIN)", x.worth(0, MIN), JamDays.OUTSIDE);
    says("worth: year (0 to 99): 100 is too large");
    due("worth(0, 100)", x.worth(0, 100), JamDays.OUTSIDE);
    due("worth(0, MAX)", x.worth(0, MAX), JamDays.OUTSIDE);
    says("worth: UNKNOWN: no such JAR");
    due("worth(-1, 0)", x.worth(-1, 0), JamDays.UNKNOWN);
    due("worth(2, 0)", x.worth(2, 0), JamDays.UNKNOWN);
    due("worth(MIN, 0)", x.worth(MIN, 0), JamDays.UNKNOWN);
    due("worth(MAX, 0)", x.worth(MAX, 0), JamDays.UNKNOWN);
    due("worth(0, 0) without a larder", new JamDays().worth(0, 0), JamDays.UNKNOWN);
    says("worth: UNKNOWN is told ahead of OUTSIDE");
    due("worth(2, 100)", x.worth(2, 100), JamDays.UNKNOWN);
    due("worth(-1, -1)", x.worth(-1, -1), JamDays.UNKNOWN);
    says("worth: the first SPOON: also if some or all are eaten in that YEAR");
    eat(x, 0, 12);
    due("worth(0, 0)", x.worth(0, 0), 105);
  }

  // ---- promises 9 to 11: spoons, years

  private static void eatAndJoy() {
    says("eat: STATE: there is none: the 13th SPOON");
    JamDays x = read("c90,c80");
    for (int i = 0; i < 12; i++) due("eat(0)", x.eat(0), 109 - i);
    due("eat(0), the 13th", x.eat(0), JamDays.STATE);
    due("jar(0, 3)", x.jar(0, 3), 0);
    due("count(5)", x.count(5), 12);
    says("eat: STATE: there is none: in the next YEAR, too");
    x.year();
    due("eat(0)", x.eat(0), JamDays.STATE);
    says("eat: the last SPOON behind WASPS");
    wasps(x, 1, 11);
    due("eat(1)", x.eat(1), 108);
    due("eat(1)", x.eat(1), JamDays.STATE);
    says("eat: UNKNOWN: no such JAR");
    due("eat(-1)", x.eat(-1), JamDays.UNKNOWN);
    due("eat(2)", x.eat(2), JamDays.UNKNOWN);
    due("eat(MIN)", x.eat(MIN), JamDays.UNKNOWN);
    due("eat(MAX)", x.eat(MAX), JamDays.UNKNOWN);
    due("eat(0) without a larder", new JamDays().eat(0), JamDays.UNKNOWN);
    says("JOY is by its WORTH more (or less)");
    JamDays y = read("j10,j00");
    int[] eaten = {101, 100, 99};
    int[] joy = {2001, 2001, 2000};
    for (int i = 0; i < 3; i++) {
      due("eat(0)", y.eat(0), eaten[i]);
      due("count(3)", y.count(3), joy[i]);
    }
    due("eat(1)", y.eat(1), 100);
    due("eat(1)", y.eat(1), 99);
    due("count(3)", y.count(3), 1999);
    says("JOY: least of all: 72 SPOONS of WEAK ones in YEAR 99");
    JamDays weak = inYear(99, "w00,w00,w00,w00,w00,w00");
    for (int j = 0; j < 6; j++) eat(weak, j, 12);
    due("count(3)", weak.count(3), 2000 - 6 * (12 * 20 + 66));
    says("JOY: most of all: of GOLD ones, one SPOON of each in each YEAR");
    JamDays gold = read("g90,g90,g90,g90,g90,g90");
    for (int i = 0; i < 12; i++) {
      for (int j = 0; j < 6; j++) due("eat(" + j + ")", gold.eat(j), 118);
      gold.year();
    }
    due("count(3)", gold.count(3), 2000 + 72 * 18);
  }

  private static void waspsTake() {
    says("wasps: how many there are then: down to none");
    JamDays x = read("c90,c80");
    for (int i = 11; i >= 0; i--) due("wasps(0)", x.wasps(0), i);
    says("wasps: STATE: there is none");
    due("wasps(0)", x.wasps(0), JamDays.STATE);
    due("count(6)", x.count(6), 12);
    says("wasps: STATE: there is none: all are eaten");
    eat(x, 1, 12);
    due("wasps(1)", x.wasps(1), JamDays.STATE);
    says("wasps: UNKNOWN: no such JAR");
    due("wasps(-1)", x.wasps(-1), JamDays.UNKNOWN);
    due("wasps(2)", x.wasps(2), JamDays.UNKNOWN);
    due("wasps(MIN)", x.wasps(MIN), JamDays.UNKNOWN);
    due("wasps(MAX)", x.wasps(MAX), JamDays.UNKNOWN);
    due("wasps(0) without a larder", new JamDays().wasps(0), JamDays.UNKNOWN);
    says("WASPS: that is nobody's JOY, and does not count as eaten");
    JamDays y = read("c90,c80");
    y.eat(0);
    wasps(y, 0, 3);
    due("count(3)", y.count(3), 2009);
    due("count(5)", y.count(5), 1);
    due("jar(0, 6)", y.jar(0, 6), 1);
    due("eat(0)", y.eat(0), 108);
  }

  private static void year() {
    says("year: STATE: no LARDER");
    JamDays none = new JamDays();
    due("year()", none.year(), JamDays.STATE);
    due("count(1)", none.count(1), 0);
    says("year: which it is: the first and the last");
    due("year()", read("c90,c80").year(), 1);
    due("year()", inYear(98, "c90,c80").year(), 99);
    says("year: FULL: it is YEAR 99");
    JamDays x = inYear(99, "c90,c80");
    x.eat(0);
    due("year()", x.year(), JamDays.FULL);
    due("count(1)", x.count(1), 99);
    says("year: FULL: what was eaten in this YEAR stays so");
    due("jar(0, 6)", x.jar(0, 6), 1);
    due("eat(0)", x.eat(0), 108);
    says("year: of all JARS none is eaten in it yet");
    JamDays y = read(SIX);
    for (int j = 0; j < 6; j++) eat(y, j, 2);
    y.year();
    for (int j = 0; j < 6; j++) due("jar(" + j + ", 6)", y.jar(j, 6), 0);
    says("year: SPOONS, JOY, how many were eaten and taken in all stay");
    JamDays z = read("c90,c80");
    eat(z, 0, 2);
    z.wasps(1);
    z.year();
    counts(z, 2, 1, 21, 2017, 0, 2, 1, 0, 0, 1, 0);
  }

  // ---- promise 12: best

  private static void bestSpoons() {
    says("best: spoons (0 to 12): none is WORTH nothing");
    bests(read("c90,c80"), 0, 1000, 0, 0);
    says("best: spoons (0 to 12): 12 of one JAR");
    JamDays one = read("c90,c80");
    wasps(one, 0, 12);
    bests(one, 12, 1000 + 12 * 8 - 66, 0, 12);
    says("best: spoons (0 to 12): -1 is too small");
    due("best(-1, 0)", one.best(-1, 0), JamDays.OUTSIDE);
    due("best(MIN, 0)", one.best(MIN, 0), JamDays.OUTSIDE);
    says("best: spoons (0 to 12): 13 is too large, also if there are so many");
    JamDays full = read("c90,c80");
    due("count(2)", full.count(2), 24);
    due("best(13, 0)", full.best(13, 0), JamDays.OUTSIDE);
    due("best(MAX, 0)", full.best(MAX, 0), JamDays.OUTSIDE);
    says("best: as many as there are");
    JamDays few = read("c90,c80");
    wasps(few, 0, 10);
    wasps(few, 1, 9);
    bests(few, 5, 1000 + 9 + 8 + 8 + 7 + 6, 2, 3);
    says("best: NONE: there are not so many: one more than there are");
    bests(few, 6, -1, -1, -1, -1);
    says("best: NONE: there are not so many: there is none");
    wasps(few, 0, 2);
    wasps(few, 1, 3);
    bests(few, 1, -1, -1, -1);
    says("best: none of none is not NONE");
    bests(few, 0, 1000, 0, 0, -1);
    says("best: not more of a JAR than there are");
    JamDays two = read("g90,c10");
    wasps(two, 0, 10);
    bests(two, 4, 1000 + 18 + 17 + 1 + 0, 2, 2);
    says("best: all eaten now: those eaten in this YEAR make the next ones less");
    JamDays eaten = read("c90,c80");
    eat(eaten, 0, 3);
    bests(eaten, 2, 1000 + 8 + 7, 0, 2);
    says("best: in this YEAR");
    JamDays later = read("c40,p49");
    bests(later, 1, 1004, 0, 1);
    later.year();
    bests(later, 1, 1007, 0, 1);
    bests(later, 12, 1000 + 7 + 6 + 5 + 4 + 4 + 3 + 3 + 2 + 2 + 1 + 1 + 0, 4, 8);
  }

  private static void bestWhat() {
    JamDays x = read(SIX);
    says("best: what = 0, 10 to 15: no other one");
    for (int what : new int[] {MIN, -1, 1, 2, 3, 4, 5, 6, 7, 8, 9, 16, 17, MAX}) {
      due("best(1, " + what + ")", x.best(1, what), JamDays.OUTSIDE);
    }
    due("count(10)", x.count(10), 0);
    says("best: what = 10 to 15: the first and the last JAR");
    JamDays ends = read("c90,j00,j00,j00,j00,c80");
    due("best(1, 10)", ends.best(1, 10), 1);
    due("best(1, 15)", ends.best(1, 15), 0);
    due("best(2, 15)", ends.best(2, 15), 1);
    says("best: what = 12 to 15 of two JARS: NONE: there is none such");
    JamDays two = read("c90,c80");
    for (int what = 12; what <= 15; what++) due("best(1, " + what + ")", two.best(1, what), JamDays.NONE);
    due("best(0, 12)", two.best(0, 12), JamDays.NONE);
    says("best: what = 15 of five JARS: NONE: there is none such");
    due("best(1, 15)", read("c90,c80,c70,c60,c50").best(1, 15), JamDays.NONE);
    says("best: how much, and 1000: below 1000");
    JamDays low = inYear(99, "w00,w00");
    wasps(low, 1, 12);
    bests(low, 12, 1000 - 12 * 20 - 66, 12, 0);
    says("best: how much, and 1000: most of all");
    bests(read("g90,g90,g90,g90,g90,g90"), 12, 1000 + 6 * (18 + 17), 2, 2, 2, 2, 2, 2);
    says("best: OUTSIDE is told ahead of STATE");
    due("best(13, 0) without a larder", new JamDays().best(13, 0), JamDays.OUTSIDE);
    due("best(0, 1) without a larder", new JamDays().best(0, 1), JamDays.OUTSIDE);
    says("best: STATE: no LARDER");
    JamDays none = new JamDays();
    due("best(0, 0)", none.best(0, 0), JamDays.STATE);
    due("best(12, 15)", none.best(12, 15), JamDays.STATE);
    due("count(10)", none.count(10), 0);
  }

  private static void bestOfLikeOnes() {
    says("best: of like ones as few of JAR 0 as can be");
    bests(read("c50,c50"), 1, 1005, 0, 1);
    bests(read("c50,c50"), 11, 1000 + 2 * (5 + 4 + 3 + 2 + 1) + 0, 5, 6);
    says("best: of like ones then as few of JAR 1 as can be");
    bests(read("c50,c50,c50"), 1, 1005, 0, 0, 1);
    bests(read("c50,c50,c50"), 2, 1010, 0, 1, 1);
    says("best: of like ones, and so on");
    bests(read("c50,c50,c50,c50,c50,c50"), 1, 1005, 0, 0, 0, 0, 0, 1);
    bests(read("c50,c50,c50,c50,c50,c50"), 8, 1000 + 6 * 5 + 2 * 4, 1, 1, 1, 1, 2, 2);
    says("best: WORTH most is ahead of few of JAR 0");
    bests(read("c60,c50"), 1, 1006, 1, 0);
    says("best: of like ones: as few of JAR 0 as can be, if the last has no SPOON");
    JamDays x = read("c50,c50,c50");
    wasps(x, 2, 12);
    bests(x, 1, 1005, 0, 1, 0);
    says("best: of like ones: as few of JAR 0 as can be, if the last has one SPOON");
    JamDays y = read("c50,c50,c50");
    wasps(y, 2, 11);
    bests(y, 4, 1005 + 5 + 5 + 4, 1, 2, 1);
  }

  private static void bestFortyTimes() {
    says("best: done 40 times ever: the 40th answers, the 41st is refused");
    JamDays x = read("c90,c80");
    for (int i = 1; i <= 40; i++) due("best(1, 0), time " + i, x.best(1, 0), 1009);
    due("best(1, 0), time 41", x.best(1, 0), JamDays.STATE);
    due("count(10)", x.count(10), 40);
    says("best: OUTSIDE is told ahead of STATE: behind 40 times");
    due("best(13, 0)", x.best(13, 0), JamDays.OUTSIDE);
    due("best(1, 9)", x.best(1, 9), JamDays.OUTSIDE);
    says("best: ever: in another LARDER, too");
    write(x, "c70,c60");
    x.larder();
    due("best(1, 0)", x.best(1, 0), JamDays.STATE);
    says("best: refusals do not count");
    JamDays y = new JamDays();
    y.best(1, 0);
    write(y, "c90,c80");
    y.larder();
    for (int i = 0; i < 45; i++) y.best(i % 2 == 0 ? 13 : 1, i % 2 == 0 ? 0 : 9);
    due("count(10)", y.count(10), 0);
    due("best(1, 0)", y.best(1, 0), 1009);
    due("count(10)", y.count(10), 1);
    says("best: all else counts: there are not so many");
    wasps(y, 0, 12);
    wasps(y, 1, 12);
    due("best(1, 0)", y.best(1, 0), JamDays.NONE);
    due("count(10)", y.count(10), 2);
    says("best: all else counts: there is none such");
    due("best(0, 15)", y.best(0, 15), JamDays.NONE);
    due("count(10)", y.count(10), 3);
    says("best: all else counts: none of none");
    due("best(0, 0)", y.best(0, 0), 1000);
    due("count(10)", y.count(10), 4);
    says("best: 40 NONES are 40 times");
    for (int i = 5; i <= 40; i++) due("best(1, 0)", y.best(1, 0), JamDays.NONE);
    due("best(1, 0)", y.best(1, 0), JamDays.STATE);
    says("best: counts on, whatever is restored");
    JamDays z = read("c90,c80");
    z.image();
    for (int i = 0; i < 40; i++) z.best(0, 0);
    z.restore();
    due("best(0, 0)", z.best(0, 0), JamDays.STATE);
    due("count(10)", z.count(10), 40);
  }

  // ---- promises 13 to 16: what is tasted

  private static void tasted() {
    says("taste: year (0 to 99): the first and the last");
    due("taste(0, 0)", read("c90,c80").taste(0, 0), 1);
    due("taste(99, 0)", read("c90,c80").taste(99, 0), 1);
    says("taste: year (0 to 99): -1 is too small");
    due("taste(-1, 0)", read("c90,c80").taste(-1, 0), JamDays.OUTSIDE);
    due("taste(MIN, 0)", read("c90,c80").taste(MIN, 0), JamDays.OUTSIDE);
    says("taste: year (0 to 99): 100 is too large");
    due("taste(100, 0)", read("c90,c80").taste(100, 0), JamDays.OUTSIDE);
    due("taste(MAX, 0)", read("c90,c80").taste(MAX, 0), JamDays.OUTSIDE);
    says("taste: worth (-20 to 30): the least and the most");
    due("taste(0, -20)", read("c90,c80").taste(0, -20), 1);
    due("taste(0, 30)", read("c90,c80").taste(0, 30), 1);
    says("taste: worth (-20 to 30): -21 is too small");
    due("taste(0, -21)", read("c90,c80").taste(0, -21), JamDays.OUTSIDE);
    due("taste(0, MIN)", read("c90,c80").taste(0, MIN), JamDays.OUTSIDE);
    says("taste: worth (-20 to 30): 31 is too large");
    due("taste(0, 31)", read("c90,c80").taste(0, 31), JamDays.OUTSIDE);
    due("taste(0, MAX)", read("c90,c80").taste(0, MAX), JamDays.OUTSIDE);
    says("TASTED (6 at most): FULL: the 7th; the same again is one more");
    JamDays x = read("c90,c80");
    for (int i = 1; i <= 6; i++) due("taste(0, 9)", x.taste(0, 9), i);
    due("taste(0, 8), the 7th", x.taste(0, 8), JamDays.FULL);
    due("count(7)", x.count(7), 6);
    due("which()", x.which(), 1);
    says("taste: OUTSIDE is told ahead of FULL");
    due("taste(100, 0)", x.taste(100, 0), JamDays.OUTSIDE);
    due("taste(0, 31)", x.taste(0, 31), JamDays.OUTSIDE);
    says("taste: six again behind forget()");
    x.forget();
    for (int i = 1; i <= 6; i++) due("taste(0, 8)", x.taste(0, 8), i);
    due("taste(0, 8), the 7th", x.taste(0, 8), JamDays.FULL);
    says("taste: without a LARDER, too");
    JamDays none = new JamDays();
    for (int i = 1; i <= 6; i++) due("taste(0, 0)", none.taste(0, 0), i);
    due("taste(0, 0), the 7th", none.taste(0, 0), JamDays.FULL);
  }

  private static void forget() {
    says("forget: how much was: nothing");
    due("forget()", new JamDays().forget(), 0);
    due("forget()", read("c90,c80").forget(), 0);
    says("forget: how much was: one");
    JamDays x = read("c90,c80");
    x.taste(0, 9);
    due("forget()", x.forget(), 1);
    says("forget: how much was: all that can be");
    taste(x, 0, 9, 7);
    due("forget()", x.forget(), 6);
    says("forget: nothing is TASTED any more");
    due("count(7)", x.count(7), 0);
    due("which()", x.which(), 3);
    due("forget()", x.forget(), 0);
    says("forget: nothing of it comes again with the next");
    x.taste(0, 8);
    due("which()", x.which(), 2);
    says("forget: without a LARDER, too");
    JamDays none = new JamDays();
    none.taste(0, 0);
    due("forget()", none.forget(), 1);
  }

  private static void which() {
    says("which: STATE: no LARDER");
    JamDays none = new JamDays();
    due("which()", none.which(), JamDays.STATE);
    none.taste(0, 0);
    due("which()", none.which(), JamDays.STATE);
    says("which: nothing is TASTED: all JARS");
    for (int jars = 2; jars <= 6; jars++) {
      due("which() of " + jars, read(SIX.substring(0, 4 * jars - 1)).which(), (1 << jars) - 1);
    }
    says("which: it can be none");
    JamDays x = read("c90,c80");
    x.taste(0, 30);
    due("which()", x.which(), 0);
    says("which: as bits: the first and the last of six alone");
    JamDays first = read("c90,c80,c80,c80,c80,c80");
    first.taste(50, 9);
    due("which()", first.which(), 1);
    JamDays last = read("c80,c80,c80,c80,c80,c90");
    last.taste(50, 9);
    due("which()", last.which(), 32);
    says("which: all that is TASTED is so: the 6th decides, too");
    JamDays y = read("j90,c90");
    taste(y, 0, 9, 5);
    due("which()", y.which(), 3);
    y.taste(1, 6);
    due("which()", y.which(), 1);
    says("which: all that is TASTED is so: the first decides, too");
    JamDays z = read("j90,c90");
    z.taste(1, 6);
    taste(z, 0, 9, 5);
    due("which()", z.which(), 1);
    says("which: in YEAR 0 and in YEAR 99");
    JamDays w = read("p60,j90");
    w.taste(0, 9);
    due("which()", w.which(), 2);
    w.taste(99, -11);
    due("which()", w.which(), 2);
    w.forget();
    w.taste(99, -11);
    due("which()", w.which(), 3);
    says("which: least and most that a JAR can be WORTH");
    JamDays ends = read("w00,g90");
    ends.taste(99, -20);
    due("which()", ends.which(), 1);
    ends.forget();
    ends.taste(99, 18);
    due("which()", ends.which(), 2);
    says("which: the first SPOON: whatever is eaten, taken, and now");
    eat(ends, 1, 12);
    wasps(ends, 0, 12);
    due("which()", ends.which(), 2);
  }

  private static void tasteNext() {
    says("tasteNext: STATE: no LARDER");
    due("tasteNext()", new JamDays().tasteNext(), JamDays.STATE);
    says("tasteNext: NONE, if there are none");
    JamDays x = read("c90,c80");
    x.taste(0, 30);
    due("tasteNext()", x.tasteNext(), JamDays.NONE);
    says("tasteNext: one is left already: now");
    JamDays one = read("j90,c80");
    one.taste(0, 8);
    due("tasteNext()", one.tasteNext(), 0);
    says("tasteNext: of like ones the first: they never differ");
    due("tasteNext()", read("c90,c90,c90,c90,c90,c90").tasteNext(), 0);
    says("tasteNext: of like ones the first: they differ in all YEARS");
    due("tasteNext()", read("c90,c80").tasteNext(), 0);
    says("tasteNext: of like ones the first: they differ in each YEAR that is odd");
    due("tasteNext()", read("c90,p99").tasteNext(), 1);
    says("tasteNext: fewest are left at worst, not at best");
    // year 0: 9 9 8 8 7 7, two at worst; year 1: 12 9 11 8 10 7
    due("tasteNext()", read("p99,c90,p89,c80,p79,c70").tasteNext(), 1);
    // year 0: 9 8 8 8, three at worst and one at best; year 1: 9 9 8 8, two at worst and at best
    due("tasteNext()", read("c90,p83,c80,c80").tasteNext(), 1);
    says("tasteNext: fewest of these: only of those that it can be");
    // year 0: 8 6 8; year 1: 6 6 8; year 2: 4 6 8; of the first two none are alike in year 0
    JamDays these = read("j83,c60,c80");
    due("tasteNext()", these.tasteNext(), 2);
    these.taste(1, 6);
    due("which()", these.which(), 3);
    due("tasteNext()", these.tasteNext(), 0);
  }

  private static void tasteNextYears() {
    says("tasteNext: 0 to 9: the 9th is looked at");
    // two are alike in each of the years 0 to 8; in year 9 they are worth -6 -14 -18 0 -17 2
    JamDays nine = read("p93,p32,w07,g09,j30,g16");
    due("tasteNext()", nine.tasteNext(), 9);
    says("tasteNext: 0 to 9: the 10th is not looked at");
    // two are alike in each of the years 0 to 9; in year 10 they are worth -15 -19 -11 4 -16
    JamDays ten = read("w51,p14,w92,g27,w47");
    due("tasteNext()", ten.tasteNext(), 0);
    says("tasteNext: from now: the 9th from YEAR 1 is looked at");
    JamDays from1 = inYear(1, "w51,p14,w92,g27,w47");
    due("tasteNext()", from1.tasteNext(), 9);
    says("tasteNext: as if they went on above 99: YEAR 100");
    // p69: 9 in odd years, 6 in even ones
    due("tasteNext() in year 97", inYear(97, "p69,c90").tasteNext(), 1);
    due("tasteNext() in year 98", inYear(98, "p69,c90").tasteNext(), 0);
    due("tasteNext() in year 99", inYear(99, "p69,c90").tasteNext(), 1);
    says("tasteNext: as if they went on above 99: YEAR 100 is even");
    due("tasteNext() in year 99", inYear(99, "p99,c90").tasteNext(), 0);
    due("tasteNext() in year 98", inYear(98, "p99,c90").tasteNext(), 1);
  }

  // ---- promise 17: times

  private static void timesArguments() {
    JamDays x = read("c90,c80");
    says("times: years (1 to 60): the fewest and the most");
    due("times(1, 0, 2)", x.times(1, 0, 2), seedAfter(2, 0));
    due("times(60, 0, 2)", x.times(60, 0, 2), seedAfter(120, 0));
    says("times: years (1 to 60): 0 is too few");
    due("times(0, 0, 0)", x.times(0, 0, 0), JamDays.OUTSIDE);
    due("times(-1, 0, 0)", x.times(-1, 0, 0), JamDays.OUTSIDE);
    due("times(MIN, 0, 0)", x.times(MIN, 0, 0), JamDays.OUTSIDE);
    says("times: years (1 to 60): 61 are too many");
    due("times(61, 0, 0)", x.times(61, 0, 0), JamDays.OUTSIDE);
    due("times(MAX, 0, 0)", x.times(MAX, 0, 0), JamDays.OUTSIDE);
    says("times: seed (0 at least): -1 is too small");
    due("times(1, -1, 0)", x.times(1, -1, 0), JamDays.OUTSIDE);
    due("times(1, MIN, 0)", x.times(1, MIN, 0), JamDays.OUTSIDE);
    says("times: seed (0 at least): the least and the most");
    due("times(1, 0, 0)", x.times(1, 0, 0), 22);
    due("times(1, MAX, 0)", x.times(1, MAX, 0), 22);
    says("times: what = 0 to 2: -1 is too small");
    due("times(1, 0, -1)", x.times(1, 0, -1), JamDays.OUTSIDE);
    due("times(1, 0, MIN)", x.times(1, 0, MIN), JamDays.OUTSIDE);
    says("times: what = 0 to 2: 3 is too large");
    due("times(1, 0, 3)", x.times(1, 0, 3), JamDays.OUTSIDE);
    due("times(1, 0, MAX)", x.times(1, 0, MAX), JamDays.OUTSIDE);
    says("times: STATE: no LARDER");
    due("times(1, 0, 0)", new JamDays().times(1, 0, 0), JamDays.STATE);
    due("times(1, 0, 2)", new JamDays().times(1, 0, 2), JamDays.STATE);
    says("times: OUTSIDE is told ahead of STATE");
    due("times(0, 0, 0)", new JamDays().times(0, 0, 0), JamDays.OUTSIDE);
    due("times(1, -1, 0)", new JamDays().times(1, -1, 0), JamDays.OUTSIDE);
    due("times(1, 0, 3)", new JamDays().times(1, 0, 3), JamDays.OUTSIDE);
  }

  private static void timesOfWhatThereIs() {
    says("times: as they would be: nothing changes");
    JamDays x = read("c90,c80");
    x.eat(0);
    x.image();
    long h = x.digest();
    x.times(60, 7, 0);
    x.times(60, 7, 1);
    due("digest()", x.digest(), h);
    due("count(1)", x.count(1), 0);
    due("restore()", x.restore(), 0);
    due("digest()", x.digest(), h);
    says("times: nothing changes of an IMAGE that is older than now");
    JamDays old = read("c90,c80");
    old.image();
    old.eat(0);
    old.year();
    old.times(60, 7, 0);
    due("restore()", old.restore(), 0);
    due("count(2)", old.count(2), 24);
    says("times: the same SEED again tells the same");
    due("times(9, 7, 1)", x.times(9, 7, 1), x.times(9, 7, 1));
    says("times: WASPS of a JAR only if there is any");
    // seed 0 of two jars: wasps at jar 0, then one eats of jar 0
    JamDays none = read("c90,c50");
    wasps(none, 0, 12);
    due("times(1, 0, 0)", none.times(1, 0, 0), 12);
    says("times: one eats of a JAR only if there is any");
    due("times(1, 0, 1)", none.times(1, 0, 1), 2000);
    says("times: WASPS come ahead of the one who eats: the last SPOON is theirs");
    JamDays last = read("c90,c50");
    wasps(last, 0, 11);
    due("times(1, 0, 0)", last.times(1, 0, 0), 12);
    due("times(1, 0, 1)", last.times(1, 0, 1), 2000);
    says("times: two SPOONS are enough for both");
    JamDays two = read("c90,c50");
    wasps(two, 0, 10);
    due("times(1, 0, 0)", two.times(1, 0, 0), 12);
    due("times(1, 0, 1)", two.times(1, 0, 1), 2009);
    says("times: a DRAW of how many JARS there are, the empty ones among them: the SEED goes on all the same");
    due("times(60, 0, 2)", none.times(60, 0, 2), seedAfter(120, 0));
    says("times: there is no SPOON at all");
    JamDays empty = read("c90,c50");
    wasps(empty, 0, 12);
    eat(empty, 1, 12);
    due("times(60, 5, 0)", empty.times(60, 5, 0), 0);
    due("times(60, 5, 1)", empty.times(60, 5, 1), 2000 + 12 * 5 - 66);
    due("times(60, 5, 2)", empty.times(60, 5, 2), seedAfter(120, 5));
    says("times: how much JOY there is then (that of now among it)");
    JamDays joy = read("c90,c50");
    joy.eat(1);
    due("times(1, 0, 1)", joy.times(1, 0, 1), 2005 + 9);
    says("times: what was eaten in this YEAR counts in the first one alone");
    JamDays eaten = read("c90,c90");
    eat(eaten, 0, 2);
    eat(eaten, 1, 2);
    due("times(1, 0, 1)", eaten.times(1, 0, 1), 2034 + 7);
    due("times(2, 0, 1)", eaten.times(2, 0, 1), 2034 + 7 + 9);
    says("times: JOY below that of now");
    due("times(1, 0, 1)", inYear(50, "w00,w00").times(1, 0, 1), 2000 - 20);
  }

  private static void timesAboveYear99() {
    says("times: as if they went on above 99");
    // p59: 8 in odd years, 5 in even ones
    JamDays x = inYear(99, "p59,p59");
    int[] joy = {2008, 2013, 2021, 2026};
    for (int n = 1; n <= 4; n++) {
      due("times(" + n + ", 0, 1)", x.times(n, 0, 1), joy[n - 1]);
      due("times(" + n + ", 0, 0)", x.times(n, 0, 0), 24 - 2 * n);
    }
    due("count(1)", x.count(1), 99);
    says("times: up to YEAR 99 and one on");
    JamDays y = inYear(98, "p59,p59");
    due("times(1, 0, 1)", y.times(1, 0, 1), 2005);
    due("times(2, 0, 1)", y.times(2, 0, 1), 2013);
    due("times(3, 0, 1)", y.times(3, 0, 1), 2018);
    says("times: MOULD is 20 at most above 99, too");
    due("times(2, 0, 1)", inYear(99, "w90,w90").times(2, 0, 1), 2000 - 22);
  }

  /** The seed after so many draws, by numbers without a bound. */
  private static long seedAfter(int draws, long seed) {
    BigInteger s = BigInteger.valueOf(seed);
    for (int i = 0; i < draws; i++) {
      s = s.multiply(BigInteger.valueOf(1103515245)).add(BigInteger.valueOf(12345)).mod(BigInteger.TWO.pow(31));
    }
    return s.longValueExact();
  }

  private static void timesDraws() {
    JamDays x = read("c90,c50");
    says("DRAWS: the next SEED: 1103515245 times it and 12345, its rest by 2 to the 31: of SEED 0");
    due("times(1, 0, 2)", x.times(1, 0, 2), 1406932606);
    says("DRAWS: of the largest SEED");
    // 1103515245 * (2^31 - 1) + 12345 leaves 2^31 - 1103515245 + 12345 = 1043980748
    due("seedAfter(1, MAX)", seedAfter(1, MAX), 1043980748);
    due("times(1, MAX, 2)", x.times(1, MAX, 2), 288979989);
    says("DRAWS: many SEEDS, small and large ones: never below 0");
    for (int seed : new int[] {1, 2, 65535, 65536, 65537, 1 << 30, MAX - 1, MAX}) {
      for (int n : new int[] {1, 2, 59, 60}) {
        due("times(" + n + ", " + seed + ", 2)", x.times(n, seed, 2), seedAfter(2 * n, seed));
      }
    }
    says("DRAWS: then that by 65536 (rounded down), its rest: the JAR of each of six");
    // by the worth of its first spoon it is told which jar was drawn
    String six = "c90,c80,c70,c60,c50,c40";
    for (int seed = 0; seed < 60; seed++) {
      JamDays y = read(six);
      int jar = (int) (seedAfter(2, seed) / 65536 % 6);
      due("times(1, " + seed + ", 1)", y.times(1, seed, 1), 2009 - jar);
    }
    says("DRAWS: how many there are: two to six JARS");
    for (int jars = 2; jars <= 6; jars++) {
      JamDays y = read(six.substring(0, 4 * jars - 1));
      int jar = (int) (seedAfter(2, 571) / 65536 % jars);
      due("times(1, 571, 1) of " + jars, y.times(1, 571, 1), 2009 - jar);
    }
    says("DRAWS: WASPS draw first");
    for (int seed = 0; seed < 20; seed++) {
      int jar = (int) (seedAfter(1, seed) / 65536 % 2);
      JamDays y = read("c90,c50");
      wasps(y, 1 - jar, 12);
      due("times(1, " + seed + ", 0)", y.times(1, seed, 0), seedAfter(2, seed) / 65536 % 2 == jar ? 10 : 11);
    }
  }

  // ---- promises 18 to 21: what is told of all

  private static void image() {
    says("image: STATE: no LARDER");
    JamDays none = new JamDays();
    due("image()", none.image(), JamDays.STATE);
    due("restore()", none.restore(), JamDays.STATE);
    says("image: a refused one keeps nothing");
    write(none, "c90,c80");
    none.larder();
    due("restore()", none.restore(), JamDays.STATE);
    says("image: the YEAR: the first and the last");
    due("image()", read("c90,c80").image(), 0);
    due("image()", inYear(99, "c90,c80").image(), 99);
    says("image: one; the latest");
    JamDays x = read("c90,c80");
    x.image();
    x.year();
    x.image();
    x.year();
    due("restore()", x.restore(), 1);
    due("restore()", x.restore(), 1);
    says("image: it is kept, whatever goes on");
    x.eat(0);
    x.taste(0, 9);
    x.year();
    due("restore()", x.restore(), 1);
    counts(x, 2, 1, 24, 2000, 0, 0, 0, 0, 0, 1, 0);
  }

  private static void imageKeeps() {
    JamDays x = read("j90,c90,c80");
    eat(x, 0, 12);
    x.year();
    eat(x, 1, 2);
    wasps(x, 2, 3);
    x.taste(1, 6);
    taste(x, 0, 9, 5);
    x.image();
    int[] kept = new int[8];
    for (int what = 0; what < 8; what++) kept[what] = x.count(what);
    eat(x, 1, 10);
    wasps(x, 2, 9);
    for (int i = 0; i < 98; i++) x.year();
    x.forget();
    x.taste(2, 3);
    due("restore()", x.restore(), 1);
    says("an IMAGE keeps the YEAR");
    due("count(1)", x.count(1), 1);
    says("an IMAGE keeps SPOONS, also if there were none");
    int[] spoons = {0, 10, 9};
    for (int j = 0; j < 3; j++) due("jar(" + j + ", 3)", x.jar(j, 3), spoons[j]);
    says("an IMAGE keeps how many were eaten in it");
    int[] eaten = {0, 2, 0};
    for (int j = 0; j < 3; j++) due("jar(" + j + ", 6)", x.jar(j, 6), eaten[j]);
    says("an IMAGE keeps how many were eaten, and taken by WASPS, in all");
    due("count(5)", x.count(5), 14);
    due("count(6)", x.count(6), 3);
    says("an IMAGE keeps JOY");
    due("count(3)", x.count(3), 2000 + 12 * 9 - 66 + 9 + 8);
    says("an IMAGE keeps what is TASTED, all six, with its YEARS");
    due("count(7)", x.count(7), 6);
    due("which()", x.which(), 1);
    due("taste(0, 9), the 7th", x.taste(0, 9), JamDays.FULL);
    says("an IMAGE keeps it all");
    counts(x, kept);
    says("an IMAGE keeps that nothing is TASTED");
    x.forget();
    x.image();
    taste(x, 0, 30, 6);
    x.restore();
    due("count(7)", x.count(7), 0);
    due("which()", x.which(), 7);
  }

  private static void restore() {
    says("restore: STATE: none was kept");
    due("restore()", new JamDays().restore(), JamDays.STATE);
    due("restore()", read("c90,c80").restore(), JamDays.STATE);
    says("restore: STATE: a LARDER was read since");
    JamDays x = read("c90,c80");
    x.image();
    write(x, "c70,c60");
    x.larder();
    due("restore()", x.restore(), JamDays.STATE);
    says("restore: STATE: a LARDER was read since (of the same text, too)");
    JamDays y = inYear(2, "c90,c80");
    y.image();
    write(y, "c90,c80");
    y.larder();
    due("restore()", y.restore(), JamDays.STATE);
    due("count(1)", y.count(1), 0);
    says("restore: an IMAGE of the new LARDER is one again");
    due("image()", y.image(), 0);
    y.year();
    due("restore()", y.restore(), 0);
    says("restore: again and again from the same IMAGE");
    JamDays z = inYear(2, "c90,c80");
    z.image();
    for (int i = 0; i < 3; i++) {
      eat(z, 0, 12);
      due("eat(0)", z.eat(0), JamDays.STATE);
      due("restore()", z.restore(), 2);
      due("jar(0, 3)", z.jar(0, 3), 12);
    }
    says("restore: from YEAR 99");
    JamDays late = inYear(98, "c90,c80");
    late.image();
    late.year();
    due("year()", late.year(), JamDays.FULL);
    due("restore()", late.restore(), 98);
    due("year()", late.year(), 99);
    says("restore: THE PAGE stays as it is");
    write(late, "j00,j0");
    due("restore()", late.restore(), 98);
    due("count(8)", late.count(8), 6);
    late.letter('0');
    due("larder()", late.larder(), 2);
  }

  private static void count() {
    says("count: without a LARDER (2000: no LARDER)");
    counts(new JamDays(), 0, 0, 0, 2000, 0, 0, 0, 0, 0, 0, 0);
    JamDays x = read("c90,c80");
    says("count: OUTSIDE: -1 is too small");
    due("count(-1)", x.count(-1), JamDays.OUTSIDE);
    due("count(MIN)", x.count(MIN), JamDays.OUTSIDE);
    says("count: OUTSIDE: 11 is too large");
    due("count(10)", x.count(10), 0);
    due("count(11)", x.count(11), JamDays.OUTSIDE);
    due("count(MAX)", x.count(MAX), JamDays.OUTSIDE);
    due("count(11) without a larder", new JamDays().count(11), JamDays.OUTSIDE);
    says("count: JARS that are empty: none, by the last SPOON eaten, by the last one taken, all");
    due("count(4)", x.count(4), 0);
    eat(x, 0, 11);
    due("count(4)", x.count(4), 0);
    x.eat(0);
    due("count(4)", x.count(4), 1);
    wasps(x, 1, 12);
    due("count(4)", x.count(4), 2);
    due("count(2)", x.count(2), 0);
    says("count: JARS that are empty: by WASPS alone");
    JamDays taken = read("c90,c80");
    wasps(taken, 1, 11);
    due("count(4)", taken.count(4), 0);
    taken.wasps(1);
    due("count(4)", taken.count(4), 1);
    says("count: how often a LARDER was read: counts on, whatever is read");
    write(x, "c90,c80");
    x.larder();
    due("count(9)", x.count(9), 2);
    says("count: how often a LARDER was read: a refused one is none");
    x.larder();
    due("count(9)", x.count(9), 2);
    says("count: 9 and 10 count on, whatever is restored");
    x.image();
    x.best(1, 0);
    x.restore();
    due("count(9)", x.count(9), 2);
    due("count(10)", x.count(10), 1);
    says("count: 10 counts on, whatever is read");
    write(x, "c90,c80");
    x.larder();
    due("count(10)", x.count(10), 1);
    says("count: letters of THE PAGE: as many as it can have");
    write(x, SIX + "zz");
    due("count(8)", x.count(8), 25);
  }

  /** The digest by what the other calls tell, by numbers without a bound, cut to a long at the end. */
  private static long digestOf(JamDays x, String page) {
    List<Long> told = new ArrayList<>();
    for (int j = 0; j < x.count(0); j++) {
      for (int what = 0; what <= 7; what++) told.add((long) x.jar(j, what));
      told.add((long) x.worth(j, 1));
      told.add((long) x.worth(j, 2));
    }
    if (x.count(0) > 0) {
      told.add((long) x.which());
      told.add((long) x.tasteNext());
    }
    for (char each : page.toCharArray()) told.add((long) each);
    for (int what = 0; what <= 10; what++) told.add((long) x.count(what));
    BigInteger h = BigInteger.valueOf(1031);
    for (long each : told) h = h.multiply(BigInteger.valueOf(31)).add(BigInteger.valueOf(each));
    return h.longValue();
  }

  private static void digest() {
    says("digest: without a LARDER: neither WHICH nor TRY");
    JamDays none = new JamDays();
    due("digest()", none.digest(), digestOf(none, ""));
    none.taste(0, 5);
    due("digest()", none.digest(), digestOf(none, ""));
    says("digest: without a LARDER: THE PAGE");
    write(none, "jj" + (char) 1 + (char) 126);
    due("digest()", none.digest(), digestOf(none, "jj" + (char) 1 + (char) 126));
    says("digest: as longs, wrapping: six JARS and a full PAGE");
    JamDays x = read("j90,w80,c70,p60,g50,j00");
    for (int j = 0; j < 6; j++) eat(x, j, j * 2);
    write(x, SIX + "zz");
    due("digest()", x.digest(), digestOf(x, SIX + "zz"));
    x.year();
    due("digest()", x.digest(), digestOf(x, SIX + "zz"));
    says("digest: of two JARS");
    JamDays two = read("j90,w80");
    due("digest()", two.digest(), digestOf(two, ""));
    says("digest: TRY is NONE");
    two.taste(0, 30);
    due("digest()", two.digest(), digestOf(two, ""));
    says("digest: numbers below 0 and in YEAR 99");
    JamDays late = inYear(99, "w00,p00,g90");
    eat(late, 0, 12);
    due("digest()", late.digest(), digestOf(late, ""));
    says("digest: it does not count as best(), and changes nothing");
    due("digest()", late.digest(), digestOf(late, ""));
    due("count(10)", late.count(10), 0);
    late.best(1, 0);
    due("digest()", late.digest(), digestOf(late, ""));
    due("count(10)", late.count(10), 1);
  }

  private static void longRun() {
    says("an object is used for at most 512 calls: up to the last one it answers");
    JamDays x = new JamDays();
    // 63 times 8 calls, and 8 more
    for (int i = 1; i <= 63; i++) {
      write(x, i % 2 == 0 ? "g90,w00" : "w00,g90");
      due("larder()", x.larder(), 2);
    }
    due("eat(1)", x.eat(1), 118);
    due("best(12, 0)", x.best(12, 0), 1000 + 17 * 11 - 55 + 0);
    due("count(9)", x.count(9), 63);
    due("image()", x.image(), 0);
    due("year()", x.year(), 1);
    due("restore()", x.restore(), 0);
    due("times(60, MAX, 2)", x.times(60, MAX, 2), seedAfter(120, MAX));
    due("count(3)", x.count(3), 2018);
  }

  /** "They change nothing": of two objects alike one is refused calls, and both must go on alike. */
  private static final class RefusedCalls {
    private static final int KINDS = 47;

    /** A refused call by its number: up to 36 it is refused in each of the states below. */
    private static long refuse(JamDays x, int number) {
      switch (number) {
        case 0: return x.letter(0);
        case 1: return x.letter(127);
        case 2: return x.letter(MIN);
        case 3: return x.jar(-1, 0);
        case 4: return x.jar(6, 0);
        case 5: return x.jar(0, -1);
        case 6: return x.jar(0, 8);
        case 7: return x.as(-1, 0);
        case 8: return x.as(6, 0);
        case 9: return x.as(0, -1);
        case 10: return x.as(0, 5);
        case 11: return x.worth(-1, 0);
        case 12: return x.worth(6, 0);
        case 13: return x.worth(0, -1);
        case 14: return x.worth(0, 100);
        case 15: return x.eat(-1);
        case 16: return x.eat(6);
        case 17: return x.wasps(-1);
        case 18: return x.wasps(6);
        case 19: return x.best(-1, 0);
        case 20: return x.best(13, 0);
        case 21: return x.best(1, -1);
        case 22: return x.best(1, 1);
        case 23: return x.best(1, 9);
        case 24: return x.best(1, 16);
        case 25: return x.taste(-1, 0);
        case 26: return x.taste(100, 0);
        case 27: return x.taste(0, -21);
        case 28: return x.taste(0, 31);
        case 29: return x.times(0, 0, 0);
        case 30: return x.times(61, 0, 0);
        case 31: return x.times(1, -1, 0);
        case 32: return x.times(1, 0, -1);
        case 33: return x.times(1, 0, 3);
        case 34: return x.count(-1);
        case 35: return x.count(11);
        case 36: return x.larder();
        // from here on refused in full()
        case 37: return x.letter('j');
        case 38: return x.eat(1);
        case 39: return x.wasps(1);
        case 40: return x.year();
        case 41: return x.taste(0, 0);
        case 42: return x.best(0, 0);
        // from here on refused without an image, or without a larder
        case 43: return x.restore();
        case 44: return x.image();
        case 45: return x.which();
        default: return x.tasteNext();
      }
    }

    /** In year 99, JAR 1 empty, the page full and no larder, six tasted, best done 40 times, an image of year 98. */
    private static JamDays full() {
      JamDays x = inYear(98, "c90,c80,p70");
      wasps(x, 1, 11);
      x.eat(1);
      x.taste(98, 7);
      x.image();
      x.year();
      eat(x, 2, 2);
      taste(x, 99, 10, 5);
      for (int i = 0; i < 40; i++) x.best(3, 0);
      return write(x, SIX + ",j");
    }

    /** A larder, half a page, no image. */
    private static JamDays half() {
      JamDays x = read("c90,c80,p70");
      x.eat(0);
      x.wasps(1);
      x.year();
      x.eat(2);
      x.taste(0, 9);
      x.best(1, 0);
      return write(x, "j00,w1");
    }

    /** No larder; a page that is none, and something tasted. */
    private static JamDays bare() {
      JamDays x = page("j00,w1");
      x.taste(0, 9);
      return x;
    }

    private static JamDays made(int state) {
      return state == 0 ? full() : state == 1 ? half() : bare();
    }

    /** What an object tells when it goes on; the image and the page, too. */
    private static List<Long> goesOn(JamDays x) {
      List<Long> told = new ArrayList<>();
      told.add(x.digest());
      for (int j = 0; j < 6; j++) told.add((long) x.jar(j, 6));
      told.add((long) x.best(2, 10));
      told.add((long) x.eat(2));
      told.add((long) x.taste(1, 9));
      told.add(x.digest());
      told.add((long) x.fault());
      told.add((long) x.letter('1'));
      told.add((long) x.restore());
      told.add(x.digest());
      told.add((long) x.larder());
      told.add(x.digest());
      return told;
    }

    private static void inState(String name, int state, int from, int to, int... more) {
      List<Long> unrefused = goesOn(made(state));
      for (int number = 0; number < KINDS; number++) {
        boolean asked = number <= 36 || number >= from && number <= to;
        for (int each : more) asked |= number == each;
        if (!asked) continue;
        says("refusals change nothing: call " + number + " " + name);
        JamDays x = made(state);
        long got = refuse(x, number);
        due("the answer is a refusal", got <= JamDays.UNKNOWN && got >= JamDays.FULL ? 1 : 0, 1);
        due("it goes on as if it had not been asked", goesOn(x).equals(unrefused) ? 1 : 0, 1);
      }
    }

    private static void all() {
      inState("with all that is full", 0, 37, 42);
      inState("without an image", 1, 43, 43);
      inState("without a larder", 2, 43, 46, 38, 39, 40, 42);
    }
  }
}
