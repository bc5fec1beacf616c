/**
 * Larders of jam: jars put up on good days, eaten by spoons over the years,
 * mouldering, visited by wasps, and tasted without their labels.
 */
public final class JamDays {
    public static final int NONE = -1, UNKNOWN = -101, OUTSIDE = -102, STATE = -103, FULL = -104;

    private static final int KIND_JAR = 0, KIND_WEAK = 1, KIND_COPPER = 2, KIND_PLUM = 3, KIND_GOLD = 4;
    private static final int FEWEST_JARS = 2, MOST_JARS = 6;
    /** Letters of one jar on the page, with the comma behind it. */
    private static final int JAR_STEP = 4;
    private static final int LONGEST_LARDER = MOST_JARS * JAR_STEP - 1;
    private static final int MOST_LETTERS = 25, HIGHEST_CODE = 126;
    private static final int SPOONS_AT_FIRST = 12, LAST_YEAR = 99, MOST_MOULD = 20;
    /** The years from now that are looked at: 0 to 9. */
    private static final int YEARS_AHEAD = 10;
    private static final int MOST_TASTED = 6, LEAST_TASTE = -20, HIGHEST_TASTE = 30;
    private static final int MOST_BESTS = 40, MOST_BEST_SPOONS = 12, BEST_ROW = MOST_BEST_SPOONS + 1;
    private static final int FIRST_PICK = 10;
    private static final int MOST_TIMES = 60;
    private static final int WORTH_SHIFT = 100, BEST_SHIFT = 1000, JOY_SHIFT = 2000;
    /** Stands for "not so many spoons"; far below any sum of worths. */
    private static final int IMPOSSIBLE = -1000000;
    private static final long SEED_FACTOR = 1103515245L, SEED_STEP = 12345L;
    private static final long SEED_REST = 2147483648L, DRAW_CUT = 65536L;
    private static final long DIGEST_START = 1031L, DIGEST_FACTOR = 31L;

    private final int[] page = new int[MOST_LETTERS];
    private int pageSize = 0;
    private final Jar[] jars = new Jar[MOST_JARS];
    private int jarCount = 0;
    private final Days now = new Days();
    private final Days kept = new Days();
    private final Days would = new Days();
    private boolean hasImage = false;
    private int lardersRead = 0;
    private int bestsDone = 0;
    /** Row j, column s: the most that s spoons of the jars from j on are worth together. */
    private final int[] most = new int[(MOST_JARS + 1) * BEST_ROW];
    /** What the next spoon of each jar is worth, while best is looked for. */
    private final int[] nextWorths = new int[MOST_JARS];

    public JamDays() {
    }

    // ---- the larder

    public int letter(int code) {
        if (code < 1 || code > HIGHEST_CODE) {
            return OUTSIDE;
        }
        if (pageSize < 0 || pageSize >= MOST_LETTERS) {
            return FULL;
        }
        page[pageSize] = code;
        pageSize++;
        return pageSize;
    }

    public int blank() {
        int had = pageSize;
        pageSize = 0;
        return had;
    }

    public int fault() {
        for (int place = 0; place < pageSize; place++) {
            if (!fits(place, codeAt(place))) {
                return place;
            }
        }
        return pageSize;
    }

    public int larder() {
        if (!pageIsLarder()) {
            return STATE;
        }
        jarCount = (pageSize + 1) / JAR_STEP;
        for (int i = 0; i < MOST_JARS; i++) {
            jars[i] = i < jarCount ? readJar(i * JAR_STEP) : null;
        }
        now.startAnew(jarCount);
        hasImage = false;
        lardersRead++;
        pageSize = 0;
        return jarCount;
    }

    public int jar(int jar, int what) {
        Jar found = find(jar);
        if (found == null) {
            return UNKNOWN;
        }
        switch (what) {
            case 0: return found.kindNumber();
            case 1: return found.good;
            case 2: return found.sugar;
            case 3: return now.spoonsOf(jar);
            case 4: return found.mouldIn(now.year);
            case 5: return nextWorth(jar) + WORTH_SHIFT;
            case 6: return now.eatenNowOf(jar);
            case 7: return yearsToBest(jar);
            default: return OUTSIDE;
        }
    }

    public int as(int jar, int kind) {
        Jar found = find(jar);
        if (found == null) {
            return UNKNOWN;
        }
        if (kind < KIND_JAR || kind > KIND_GOLD) {
            return OUTSIDE;
        }
        return isOfKind(found, kind) ? jar : NONE;
    }

    public int worth(int jar, int year) {
        if (find(jar) == null) {
            return UNKNOWN;
        }
        if (isNoYear(year)) {
            return OUTSIDE;
        }
        return firstWorth(jar, year) + WORTH_SHIFT;
    }

    // ---- spoons, years

    public int eat(int jar) {
        if (find(jar) == null) {
            return UNKNOWN;
        }
        int gained = nextWorth(jar);
        return now.eatSpoon(jar, gained) ? gained + WORTH_SHIFT : STATE;
    }

    public int wasps(int jar) {
        if (find(jar) == null) {
            return UNKNOWN;
        }
        return now.loseSpoon(jar) ? now.spoonsOf(jar) : STATE;
    }

    public int year() {
        if (hasNoLarder()) {
            return STATE;
        }
        if (now.year >= LAST_YEAR) {
            return FULL;
        }
        now.passYear();
        return now.year;
    }

    // ---- what would be

    public int best(int spoons, int what) {
        boolean asksPick = what >= FIRST_PICK && what < FIRST_PICK + MOST_JARS;
        if (spoons < 0 || spoons > MOST_BEST_SPOONS || (what != 0 && !asksPick)) {
            return OUTSIDE;
        }
        if (hasNoLarder() || bestsDone >= MOST_BESTS) {
            return STATE;
        }
        bestsDone++;
        fillMost();
        int together = mostWorth(0, spoons);
        if (together == IMPOSSIBLE) {
            return NONE;
        }
        return what == 0 ? together + BEST_SHIFT : pickOf(what - FIRST_PICK, spoons);
    }

    // ---- what is tasted

    public int taste(int year, int worth) {
        if (isNoYear(year) || worth < LEAST_TASTE || worth > HIGHEST_TASTE) {
            return OUTSIDE;
        }
        return now.addTaste(year, worth) ? now.tasted : FULL;
    }

    public int forget() {
        int had = now.tasted;
        now.tasted = 0;
        return had;
    }

    public int which() {
        return hasNoLarder() ? STATE : candidates();
    }

    public int tasteNext() {
        if (hasNoLarder()) {
            return STATE;
        }
        int open = candidates();
        int found = NONE;
        int fewest = MOST_JARS + 1;
        for (int ahead = 0; ahead < YEARS_AHEAD && open != 0; ahead++) {
            int left = leftAtWorst(open, now.year + ahead);
            if (left < fewest) {
                fewest = left;
                found = ahead;
            }
        }
        return found;
    }

    public int times(int years, int seed, int what) {
        if (years < 1 || years > MOST_TIMES || seed < 0 || what < 0 || what > 2) {
            return OUTSIDE;
        }
        if (hasNoLarder()) {
            return STATE;
        }
        int seedThen = liveOn(years, seed);
        switch (what) {
            case 0: return would.spoonsOfAll();
            case 1: return would.joy + JOY_SHIFT;
            default: return seedThen;
        }
    }

    // ---- what is told of all

    public int image() {
        if (hasNoLarder()) {
            return STATE;
        }
        kept.copyFrom(now);
        hasImage = true;
        return now.year;
    }

    public int restore() {
        if (!hasImage) {
            return STATE;
        }
        now.copyFrom(kept);
        return now.year;
    }

    public int count(int what) {
        switch (what) {
            case 0: return jarCount;
            case 1: return now.year;
            case 2: return now.spoonsOfAll();
            case 3: return now.joy + JOY_SHIFT;
            case 4: return emptyJars();
            case 5: return now.eaten;
            case 6: return now.lost;
            case 7: return now.tasted;
            case 8: return pageSize;
            case 9: return lardersRead;
            case 10: return bestsDone;
            default: return OUTSIDE;
        }
    }

    public long digest() {
        long h = DIGEST_START;
        for (int i = 0; i < jarCount; i++) {
            for (int what = 0; what <= 7; what++) {
                h = mix(h, jar(i, what));
            }
            h = mix(h, worth(i, 1));
            h = mix(h, worth(i, 2));
        }
        if (!hasNoLarder()) {
            h = mix(h, which());
            h = mix(h, tasteNext());
        }
        for (int place = 0; place < pageSize; place++) {
            h = mix(h, codeAt(place));
        }
        for (int what = 0; what <= 10; what++) {
            h = mix(h, count(what));
        }
        return h;
    }

    private static long mix(long h, int told) {
        return DIGEST_FACTOR * h + told;
    }

    // ---- the page

    private int codeAt(int place) {
        return place >= 0 && place < MOST_LETTERS ? page[place] : 0;
    }

    /** Whether a larder may have this letter here, if those ahead of it are as a larder has them. */
    private static boolean fits(int place, int code) {
        if (place < 0 || place >= LONGEST_LARDER) {
            return false;
        }
        switch (place % JAR_STEP) {
            case 0: return isKindLetter(code);
            case JAR_STEP - 1: return code == ',';
            default: return code >= '0' && code <= '9';
        }
    }

    private static boolean isKindLetter(int code) {
        return code == 'j' || code == 'w' || code == 'c' || code == 'p' || code == 'g';
    }

    private boolean pageIsLarder() {
        boolean endsWithJar = pageSize % JAR_STEP == JAR_STEP - 1;
        return endsWithJar && pageSize >= FEWEST_JARS * JAR_STEP - 1 && fault() == pageSize;
    }

    private Jar readJar(int place) {
        int good = codeAt(place + 1) - '0';
        int sugar = codeAt(place + 2) - '0';
        switch (codeAt(place)) {
            case 'w': return new Weak(good, sugar);
            case 'c': return new Copper(good, sugar);
            case 'p': return new Plum(good, sugar);
            case 'g': return new Gold(good, sugar);
            default: return new Jar(good, sugar);
        }
    }

    // ---- jars and what they are worth

    private boolean hasNoLarder() {
        return jarCount == 0;
    }

    private static boolean isNoYear(int year) {
        return year < 0 || year > LAST_YEAR;
    }

    /** The jar of that number, or null. */
    private Jar find(int jar) {
        return jar >= 0 && jar < jarCount && jar < MOST_JARS ? jars[jar] : null;
    }

    private static boolean isOfKind(Jar found, int kind) {
        switch (kind) {
            case KIND_JAR: return found != null;
            case KIND_WEAK: return found instanceof Weak;
            case KIND_COPPER: return found instanceof Copper;
            case KIND_PLUM: return found instanceof Plum;
            case KIND_GOLD: return found instanceof Gold;
            default: return false;
        }
    }

    private int firstWorth(int jar, int year) {
        Jar found = find(jar);
        return found == null ? 0 : found.firstWorthIn(year);
    }

    private int nextWorth(int jar) {
        return firstWorth(jar, now.year) - now.eatenNowOf(jar);
    }

    private int yearsToBest(int jar) {
        int found = 0;
        for (int ahead = 1; ahead < YEARS_AHEAD; ahead++) {
            if (firstWorth(jar, now.year + ahead) > firstWorth(jar, now.year + found)) {
                found = ahead;
            }
        }
        return found;
    }

    private int emptyJars() {
        int empty = 0;
        for (int i = 0; i < jarCount; i++) {
            if (now.spoonsOf(i) == 0) {
                empty++;
            }
        }
        return empty;
    }

    // ---- the best spoons

    private void fillMost() {
        for (int spoons = 0; spoons < BEST_ROW; spoons++) {
            setMost(jarCount, spoons, spoons == 0 ? 0 : IMPOSSIBLE);
        }
        for (int jar = Math.min(jarCount, MOST_JARS) - 1; jar >= 0; jar--) {
            nextWorths[jar] = nextWorth(jar);
            for (int spoons = 0; spoons < BEST_ROW; spoons++) {
                setMost(jar, spoons, mostFrom(jar, spoons));
            }
        }
    }

    private int mostFrom(int jar, int spoons) {
        int found = IMPOSSIBLE;
        for (int pick = 0; pick <= spoons; pick++) {
            found = Math.max(found, worthWithPick(jar, spoons, pick));
        }
        return found;
    }

    /** The most that so many spoons of the jars from this one on are worth, if so many are of this one. */
    private int worthWithPick(int jar, int spoons, int pick) {
        int rest = mostWorth(jar + 1, spoons - pick);
        if (find(jar) == null || pick > now.spoonsOf(jar) || rest == IMPOSSIBLE) {
            return IMPOSSIBLE;
        }
        return pick * nextWorths[jar] - pick * (pick - 1) / 2 + rest;
    }

    private int pickOf(int jar, int spoons) {
        if (find(jar) == null) {
            return NONE;
        }
        int left = spoons;
        for (int i = 0; i < jar; i++) {
            left -= fewestPick(i, left);
        }
        return fewestPick(jar, left);
    }

    private int fewestPick(int jar, int spoons) {
        for (int pick = 0; pick < spoons; pick++) {
            if (worthWithPick(jar, spoons, pick) == mostWorth(jar, spoons)) {
                return pick;
            }
        }
        return spoons;
    }

    private static boolean isInMost(int jar, int spoons) {
        return jar >= 0 && jar <= MOST_JARS && spoons >= 0 && spoons < BEST_ROW;
    }

    private int mostWorth(int jar, int spoons) {
        return isInMost(jar, spoons) ? most[jar * BEST_ROW + spoons] : IMPOSSIBLE;
    }

    private void setMost(int jar, int spoons, int together) {
        if (isInMost(jar, spoons)) {
            most[jar * BEST_ROW + spoons] = together;
        }
    }

    // ---- which jar it can be

    private int candidates() {
        int open = 0;
        for (int i = 0; i < jarCount; i++) {
            if (agreesWithTastes(i)) {
                open |= 1 << i;
            }
        }
        return open;
    }

    private boolean agreesWithTastes(int jar) {
        for (int i = 0; i < now.tasted && i < MOST_TASTED; i++) {
            if (firstWorth(jar, now.tastedYear[i]) != now.tastedWorth[i]) {
                return false;
            }
        }
        return true;
    }

    /** The size of the largest part of the open jars that taste alike in that year. */
    private int leftAtWorst(int open, int year) {
        int worst = 0;
        for (int i = 0; i < jarCount; i++) {
            if (isOpen(open, i)) {
                worst = Math.max(worst, openJarsLike(i, open, year));
            }
        }
        return worst;
    }

    private int openJarsLike(int jar, int open, int year) {
        int alike = 0;
        for (int i = 0; i < jarCount; i++) {
            if (isOpen(open, i) && firstWorth(i, year) == firstWorth(jar, year)) {
                alike++;
            }
        }
        return alike;
    }

    private static boolean isOpen(int open, int jar) {
        return (open >> jar & 1) == 1;
    }

    // ---- times by a seed

    /** Leaves in "would" how it is after so many years; answers the seed then. */
    private int liveOn(int years, int seed) {
        int drawn = seed;
        would.copyFrom(now);
        for (int i = 0; i < years; i++) {
            drawn = nextSeed(drawn);
            would.loseSpoon(draw(drawn));
            drawn = nextSeed(drawn);
            int jar = draw(drawn);
            would.eatSpoon(jar, firstWorth(jar, would.year) - would.eatenNowOf(jar));
            would.passYear();
        }
        return drawn;
    }

    private static int nextSeed(int seed) {
        return (int) ((SEED_FACTOR * seed + SEED_STEP) % SEED_REST);
    }

    private int draw(int seed) {
        return jarCount > 0 ? (int) (seed / DRAW_CUT % jarCount) : 0;
    }

    /** A plain jar, and what all kinds share; it does not change. */
    private static class Jar {
        final int good;
        final int sugar;
        final int mouldEachYear;

        Jar(int good, int sugar) {
            this(good, sugar, plainMould(sugar));
        }

        Jar(int good, int sugar, int mouldEachYear) {
            this.good = good;
            this.sugar = sugar;
            this.mouldEachYear = mouldEachYear;
        }

        static int plainMould(int sugar) {
            return Math.max(0, 3 - sugar / 3);
        }

        int kindNumber() {
            return KIND_JAR;
        }

        final int mouldIn(int year) {
            int mould = year * mouldEachYear;
            return mould < MOST_MOULD ? mould : MOST_MOULD;
        }

        int firstWorthIn(int year) {
            return good - mouldIn(year);
        }
    }

    private static final class Weak extends Jar {
        Weak(int good, int sugar) {
            super(good, sugar, plainMould(sugar) + 1);
        }

        int kindNumber() {
            return KIND_WEAK;
        }
    }

    private static class Copper extends Jar {
        Copper(int good, int sugar) {
            super(good, sugar, 0);
        }

        int kindNumber() {
            return KIND_COPPER;
        }
    }

    private static final class Gold extends Copper {
        Gold(int good, int sugar) {
            super(good, sugar);
        }

        int kindNumber() {
            return KIND_GOLD;
        }

        int firstWorthIn(int year) {
            return 2 * (good - mouldIn(year));
        }
    }

    private static final class Plum extends Jar {
        Plum(int good, int sugar) {
            super(good, sugar);
        }

        int kindNumber() {
            return KIND_PLUM;
        }

        int firstWorthIn(int year) {
            int oddMore = year % 2 == 1 ? 3 : 0;
            return good - mouldIn(year) + oddMore;
        }
    }

    /** All that an image keeps; the same rows serve for now, for the image and for times. */
    private static final class Days {
        int year = 0;
        int eaten = 0;
        int lost = 0;
        int joy = 0;
        int tasted = 0;
        final int[] spoons = new int[MOST_JARS];
        final int[] eatenNow = new int[MOST_JARS];
        final int[] tastedYear = new int[MOST_TASTED];
        final int[] tastedWorth = new int[MOST_TASTED];

        void startAnew(int jarCount) {
            year = 0;
            eaten = 0;
            lost = 0;
            joy = 0;
            tasted = 0;
            for (int i = 0; i < MOST_JARS; i++) {
                spoons[i] = i < jarCount ? SPOONS_AT_FIRST : 0;
                eatenNow[i] = 0;
            }
        }

        void copyFrom(Days other) {
            if (other == null) {
                return;
            }
            year = other.year;
            eaten = other.eaten;
            lost = other.lost;
            joy = other.joy;
            tasted = other.tasted;
            for (int i = 0; i < MOST_JARS; i++) {
                spoons[i] = other.spoons[i];
                eatenNow[i] = other.eatenNow[i];
            }
            for (int i = 0; i < MOST_TASTED; i++) {
                tastedYear[i] = other.tastedYear[i];
                tastedWorth[i] = other.tastedWorth[i];
            }
        }

        int spoonsOf(int jar) {
            return jar >= 0 && jar < MOST_JARS ? spoons[jar] : 0;
        }

        int eatenNowOf(int jar) {
            return jar >= 0 && jar < MOST_JARS ? eatenNow[jar] : 0;
        }

        int spoonsOfAll() {
            int sum = 0;
            for (int i = 0; i < MOST_JARS; i++) {
                sum += spoons[i];
            }
            return sum;
        }

        /** Whether there was a spoon to eat; nothing changes if not. */
        boolean eatSpoon(int jar, int gained) {
            if (spoonsOf(jar) <= 0) {
                return false;
            }
            spoons[jar]--;
            eatenNow[jar]++;
            eaten++;
            joy += gained;
            return true;
        }

        /** Whether there was a spoon for the wasps; nothing changes if not. */
        boolean loseSpoon(int jar) {
            if (spoonsOf(jar) <= 0) {
                return false;
            }
            spoons[jar]--;
            lost++;
            return true;
        }

        void passYear() {
            year++;
            for (int i = 0; i < MOST_JARS; i++) {
                eatenNow[i] = 0;
            }
        }

        boolean addTaste(int tasteYear, int tasteWorth) {
            if (tasted < 0 || tasted >= MOST_TASTED) {
                return false;
            }
            tastedYear[tasted] = tasteYear;
            tastedWorth[tasted] = tasteWorth;
            tasted++;
            return true;
        }
    }
}
