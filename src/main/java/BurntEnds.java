import java.util.Arrays;
import java.util.NoSuchElementException;

/** Candles that burn at both ends, and those who see by them. */
public final class BurntEnds {
    public static final int NONE = -1;

    private static final int NOT_SO = -2;
    private static final int MOST_TAPE = 700;
    private static final int MOST_PEOPLE = 6;
    private static final int MOST_INCHES = 60;
    private static final int MOST_JUNES = 12;
    private static final int MOST_LIGHTS = 12;
    private static final int MOST_BLOWS = 8;
    private static final int MOST_LENDS = 8;
    private static final int MOST_KNOTS = 64;
    private static final int MOST_OPEN = 8;
    private static final int MOST_NUMBER = 9999;
    private static final int MOST_FACTS = 24;
    private static final int MOST_UNDONE = 20;
    private static final int MOST_AHEAD = 200;
    private static final int MOST_SOUGHT = 199;
    private static final int LAST_HOUR = 9800;
    private static final int MOST_SEEN = 9999;
    private static final int MOST_GLOW = 99999;
    private static final int MOST_LENGTH = 30;
    private static final int ASKED_HOURS = 20;
    private static final int ALL = (1 << MOST_PEOPLE) - 1;
    private static final long MOST_WORTH = 1000000000000L;
    private static final long ERROR = Long.MIN_VALUE;

    private static final int BURN_RULE = 0;
    private static final int GLOW_RULE = 1;
    private static final int RECALL_RULE = 2;
    private static final int RULES = 3;

    private static final int STRANGE = 1;
    private static final int TOO_MUCH = 2;
    private static final int TOLD_ALREADY = 3;
    private static final int NOBODY = 4;
    private static final int ONESELF = 5;

    /** How it is found whether an HOUR is WINDY. */
    private static final int AS_IT_GOES = 0;
    private static final int BY_NUMBERS = 1;
    private static final int NEVER = 2;
    private static final int ALWAYS = 3;

    /** Kinds of TOKENS; those of words stand as in WORDS. */
    private static final int END = -1;
    private static final int NO_TOKEN = -2;
    private static final int NUMBER = -3;
    private static final int NAME = -4;
    private static final int MAN = 0;
    private static final int JUNE = 1;
    private static final int LIGHT = 2;
    private static final int BLOW = 3;
    private static final int LEND = 4;
    private static final int DRAFT = 5;
    private static final int SEED = 6;
    private static final int LAW = 7;
    private static final int BURN = 8;
    private static final int GLOW = 9;
    private static final int RECALL = 10;
    private static final int LEFT = 11;
    private static final int LIT = 12;
    private static final int JUNES = 13;
    private static final int WINDY = 14;
    private static final int TOP = 15;
    private static final int LOW = 16;
    private static final int HOUR = 17;
    private static final int OR = 18;
    private static final int AND = 19;
    private static final int NOT = 20;
    private static final int SEMICOLON = 30;
    private static final int OPEN = 31;
    private static final int CLOSE = 32;
    private static final int LESS = 33;
    private static final int LESS_OR_EQUAL = 34;
    private static final int EQUAL = 35;
    private static final int UNEQUAL = 36;
    private static final int GREATER_OR_EQUAL = 37;
    private static final int GREATER = 38;
    private static final int PLUS = 39;
    private static final int MINUS = 40;
    private static final int TIMES = 41;
    private static final int OVER = 42;

    /** The words of the language, packed as named() packs letters. */
    private static final int[] WORDS = {
        437714944, 358028288, 412328576, 80206848, 408358912, 153131648, 642945024,
        404455424, 89733120, 247979008, 609322380, 408113152, 412745728, 358028896,
        781652768, 687341568, 419135488, 284870656, 522190848, 48365568, 486146048
    };

    private final int[] tape = new int[MOST_TAPE];
    private int taped;
    private final TextReading reading = new TextReading();
    private Told told = new Told();
    private Told spare = new Told();
    private final Candles now = new Candles();
    private final Candles image = new Candles();
    private boolean hasImage;
    private final Candles then = new Candles();
    private final Course course = new Course();
    private final Undoing undoing = new Undoing();
    private final Facts facts = new Facts();
    private final Pair pair = new Pair();
    private final Turns turns = new Turns();
    private final int[] lendersFor = new int[MOST_PEOPLE];
    private final int[] leftAt = new int[MOST_INCHES];

    public BurntEnds() {
        // a TEXT without LINES is all noughts, as the rows are made
    }

    // ---- the TAPE and the TEXT

    public int feed(int a, int b, int c, int d, int e) {
        if (taped + 20 > MOST_TAPE) {
            return NONE;
        }
        putBytes(a);
        putBytes(b);
        putBytes(c);
        putBytes(d);
        putBytes(e);
        return taped;
    }

    private void putBytes(int four) {
        for (int shift = 24; shift >= 0; shift -= 8) {
            if (taped >= 0 && taped < tape.length) {
                tape[taped++] = (four >>> shift) & 255;
            }
        }
    }

    public int text(int n) {
        if (n < 0 || n > taped) {
            return NOT_SO;
        }
        taped = 0;
        int lines = reading.read(tape, n, spare);
        if (lines < 0) {
            return NONE;
        }
        Told old = told;
        told = spare;
        spare = old;
        now.begin(told);
        hasImage = false;
        undoing.forget();
        facts.forget();
        return lines;
    }

    public int fault(int what) {
        if (what == 0) {
            return reading.wrong;
        }
        return what == 1 ? reading.wrongPlace : NONE;
    }

    // ---- what was told, and what is

    public int named(int letters) {
        return told.find(letters);
    }

    public int man(int man, int what) throws IndexOutOfBoundsException, NoSuchElementException {
        if (!isPerson(man)) {
            throw new IndexOutOfBoundsException("no such person");
        }
        int left = now.leftOf(man);
        switch (what) {
            case 0:
                return told.inches[man];
            case 1:
                return left;
            case 2:
                return left == 0 ? NOT_SO : now.top[man];
            case 3:
                return left == 0 ? NOT_SO : now.inches[man] - now.low[man] - 1;
            case 4:
                return now.lit[man];
            case 5:
                return now.junesLeft(man);
            case 6:
                return sees(man) ? 1 : 0;
            case 7:
                return now.seen[man];
            default:
                throw new NoSuchElementException("no such what");
        }
    }

    public int june(int man, int inch) {
        if (!isPerson(man) || !isInch(inch)) {
            return NONE;
        }
        if (!told.isJune(man, inch)) {
            return 0;
        }
        return now.isLeft(man, inch) ? 2 : 1;
    }

    public int lenders(int man) {
        return isPerson(man) ? told.lendersOf[man] : NONE;
    }

    public int recall(int man) {
        return isPerson(man) ? recalled(now, man) : NONE;
    }

    public long law(int what, int man) {
        if (!isPerson(man)) {
            return ERROR;
        }
        return told.laws.worth(what, now, man, told.isWindyAsItGoes());
    }

    public int count(int what) {
        switch (what) {
            case 0:
                return told.people;
            case 1:
                return told.junesTold;
            case 2:
                return told.lights.size;
            case 3:
                return told.blows.size;
            case 4:
                return told.laws.knots;
            case 5:
                return now.hour;
            case 6:
                return now.leftOfAll();
            case 7:
                return now.howManyOut();
            case 8:
                return now.howManyLit();
            case 9:
                return now.glow;
            case 10:
                return now.idle;
            case 11:
                return now.seenOfAll();
            case 12:
                return facts.size;
            case 13:
                return facts.knownBy();
            case 14:
                return undoing.size;
            default:
                return NONE;
        }
    }

    private boolean isPerson(int man) {
        return man >= 0 && man < told.people;
    }

    private boolean areTwo(int one, int other) {
        return isPerson(one) && isPerson(other) && one != other;
    }

    private static boolean isInch(int inch) {
        return inch >= 0 && inch < MOST_INCHES;
    }

    private static boolean isEnd(int end) {
        return end == 0 || end == 1;
    }

    private boolean sees(int man) {
        return told.isSeeing(now.litMen(), man);
    }

    private int recalled(Candles candles, int man) {
        long worth = told.laws.worth(RECALL_RULE, candles, man, told.isWindyAsItGoes());
        return worth == ERROR ? candles.junesLeft(man) : within(worth, 9999);
    }

    private static int within(long worth, int most) {
        if (worth < 0) {
            return 0;
        }
        return worth > most ? most : (int) worth;
    }

    // ---- what is done by call

    public boolean light(int man, int end) {
        if (!isPerson(man) || !isEnd(end) || !now.canBeLit(man, end)) {
            return false;
        }
        undoing.put(now, man);
        now.lit[man] |= 1 << end;
        return true;
    }

    public boolean blow(int man, int end) {
        if (!isPerson(man) || !isEnd(end) || !now.isLit(man, end)) {
            return false;
        }
        undoing.put(now, man);
        now.lit[man] &= ~(1 << end);
        return true;
    }

    public int cut(int man, int end, int inches) {
        if (!isPerson(man) || !isEnd(end) || inches < 1 || inches > MOST_INCHES) {
            return NONE;
        }
        if (inches > now.leftOf(man)) {
            return NOT_SO;
        }
        undoing.put(now, man);
        now.shorten(man, end, inches);
        return now.leftOf(man);
    }

    public int go(int n) {
        if (n < 0 || n > MOST_AHEAD || now.hour + n > LAST_HOUR) {
            return NONE;
        }
        if (n > 0) {
            undoing.forget();
        }
        course.begin(told, BY_NUMBERS);
        for (int k = 0; k < n; k++) {
            course.pass(now, ALL, true);
        }
        return now.hour;
    }

    public int undo() {
        if (undoing.size == 0) {
            return NONE;
        }
        undoing.takeBack(now);
        return undoing.size;
    }

    public int keep() {
        image.copy(now);
        hasImage = true;
        return now.hour;
    }

    public int back() {
        if (!hasImage) {
            return NONE;
        }
        now.copy(image);
        undoing.forget();
        return now.hour;
    }

    // ---- what comes

    public int ahead(int n, int what, int man) {
        if (n < 0 || n > MOST_AHEAD || what < 0 || what > 4) {
            return NONE;
        }
        if (what != 2 && what != 3 && !isPerson(man)) {
            return NONE;
        }
        lookAhead(n);
        switch (what) {
            case 0:
                return then.leftOf(man);
            case 1:
                return recalled(then, man);
            case 2:
                return then.howManyOut();
            case 3:
                return then.glow - now.glow;
            default:
                return then.seen[man] - now.seen[man];
        }
    }

    private void lookAhead(int n) {
        course.begin(told, AS_IT_GOES);
        then.copy(now);
        for (int k = 0; k < n; k++) {
            course.pass(then, ALL, true);
        }
    }

    public int ends(int man) {
        if (!isPerson(man)) {
            return NONE;
        }
        course.begin(told, AS_IT_GOES);
        then.copy(now);
        for (int k = 0; k <= MOST_SOUGHT; k++) {
            if (then.leftOf(man) == 0) {
                return k;
            }
            course.pass(then, 1 << man, false);
        }
        return NOT_SO;
    }

    public int alike(int one, int other) {
        if (!areTwo(one, other)) {
            return NONE;
        }
        course.begin(told, AS_IT_GOES);
        then.copy(now);
        for (int k = 0; k <= MOST_SOUGHT; k++) {
            if (then.leftOf(one) == then.leftOf(other)) {
                return k;
            }
            course.pass(then, 1 << one | 1 << other, false);
        }
        return NOT_SO;
    }

    public int tried(int what, int i, int n) {
        if (what < 0 || what > 4 || n < 0 || n > MOST_AHEAD) {
            return NONE;
        }
        if (what == 2 ? !isPerson(i) : i != 0) {
            return NONE;
        }
        course.begin(told, what == 0 ? NEVER : what == 1 ? ALWAYS : AS_IT_GOES);
        course.unburnt = what == 2 ? i : NONE;
        course.noBlows = what == 3;
        course.noBurnLaw = what == 4;
        then.copy(now);
        for (int k = 0; k < n; k++) {
            course.pass(then, ALL, false);
        }
        return then.leftOfAll();
    }

    public int chance(int seed, int n, int man, int left) {
        if (seed < 0 || n < 1 || n > 99 || !isPerson(man) || left < 0 || left > MOST_INCHES) {
            return NONE;
        }
        course.begin(told, BY_NUMBERS);
        int number = seed;
        int times = 0;
        for (int draw = 0; draw < 10; draw++) {
            then.copy(now);
            then.number = number;
            for (int k = 0; k < n; k++) {
                course.pass(then, 1 << man, false);
            }
            number = then.number;
            if (then.leftOf(man) >= left) {
                times++;
            }
        }
        return times;
    }

    public long calm(int n, int what) {
        if (n < 0 || n > 6 || (what != 0 && what != 1)) {
            return NONE;
        }
        int common = Math.max(1, commonDivisor(100 - told.draft, 100));
        long base = (what == 0 ? 100 - told.draft : 100) / common;
        long power = 1;
        for (int k = 0; k < n; k++) {
            power *= base;
        }
        return power;
    }

    private static int commonDivisor(int a, int b) {
        int more = b;
        int less = a;
        for (int k = 0; k < 100 && less != 0; k++) {
            int rest = more % less;
            more = less;
            less = rest;
        }
        return more;
    }

    // ---- one candle, and two

    public int keepInch(int man, int inch) {
        if (!isPerson(man) || !isInch(inch)) {
            return NONE;
        }
        if (!now.isLeft(man, inch)) {
            return NOT_SO;
        }
        int above = inch - now.top[man];
        int below = now.inches[man] - now.low[man] - 1 - inch;
        return Math.max(above, below);
    }

    public long times(int one, int other) {
        if (!areTwo(one, other)) {
            return NONE;
        }
        pair.burn(now.leftOf(one), now.leftOf(other));
        long bits = 0;
        for (int time = 1; time < pair.fewest.length; time++) {
            if (pair.fewest[time] > 0) {
                bits |= 1L << time;
            }
        }
        return bits;
    }

    public int lightings(int one, int other, int time) {
        if (!areTwo(one, other) || time < 1 || time > MOST_INCHES) {
            return NONE;
        }
        pair.burn(now.leftOf(one), now.leftOf(other));
        return pair.fewest[time] > 0 ? pair.fewest[time] : NOT_SO;
    }

    public int game(int man, int what) {
        if (!isPerson(man) || (what != 0 && what != 1)) {
            return Integer.MIN_VALUE;
        }
        turns.play(now.junes[man], now.top[man], now.leftOf(man));
        return what == 0 ? turns.more : turns.move;
    }

    public int rests(int one, int other) {
        if (!areTwo(one, other)) {
            return NONE;
        }
        int found = 0;
        for (int ways = 0; ways < 4; ways++) {
            if (isRest(one, other, ways)) {
                found++;
            }
        }
        return found;
    }

    public int rest(int one, int other, int k) {
        if (!areTwo(one, other) || k < 0) {
            return NONE;
        }
        int ahead = 0;
        for (int ways = 0; ways < 4; ways++) {
            if (isRest(one, other, ways)) {
                if (ahead == k) {
                    return 10 * (ways >> 1) + (ways & 1);
                }
                ahead++;
            }
        }
        return NOT_SO;
    }

    /** ways: twice the first one's and the second one's. */
    private boolean isRest(int one, int other, int ways) {
        int mine = now.junesLeft(one);
        int others = now.junesLeft(other);
        int first = ways >> 1;
        int second = ways & 1;
        return spent(mine, others, 1 - first, second) <= spent(mine, others, first, second)
            && spent(others, mine, 1 - second, first) <= spent(others, mine, second, first);
    }

    private static int spent(int mine, int others, int myWay, int otherWay) {
        if (myWay == 0) {
            return otherWay == 0 ? mine / 2 : mine + 2;
        }
        return otherWay == 0 ? mine + others : mine;
    }

    // ---- all PEOPLE

    public int cover() {
        int best = NOT_SO;
        for (int set = 0; set < 1 << told.people; set++) {
            if (isFewer(set, best) && (set & now.outMen()) == 0 && allSeeBy(set)) {
                best = set;
            }
        }
        return best;
    }

    private static boolean isFewer(int set, int best) {
        return best < 0 || Integer.bitCount(set) < Integer.bitCount(best);
    }

    private boolean allSeeBy(int set) {
        for (int man = 0; man < told.people; man++) {
            if (!told.isSeeing(set, man)) {
                return false;
            }
        }
        return true;
    }

    public int last(int n) {
        if (n < 0 || n > 360) {
            return NONE;
        }
        int best = NOT_SO;
        for (int set = 0; set < 1 << told.people; set++) {
            if (isFewer(set, best) && inchesOf(set) >= n) {
                best = set;
            }
        }
        return best;
    }

    private int inchesOf(int set) {
        int sum = 0;
        for (int man = 0; man < told.people; man++) {
            if ((set >> man & 1) != 0) {
                sum += now.leftOf(man);
            }
        }
        return sum;
    }

    public int match(int what) {
        if (what < 0 || what > MOST_PEOPLE) {
            return NONE;
        }
        gatherLenders();
        if (what == MOST_PEOPLE) {
            return mostMatched(lendersFor, 0, 0);
        }
        int used = 0;
        for (int man = 0; man < what; man++) {
            int lender = lenderChosen(man, used);
            used |= lender < 0 ? 0 : 1 << lender;
        }
        return lenderChosen(what, used);
    }

    private void gatherLenders() {
        for (int man = 0; man < MOST_PEOPLE; man++) {
            boolean needs = man < told.people && !sees(man);
            lendersFor[man] = needs ? told.lendersOf[man] & ~now.outMen() : 0;
        }
    }

    private int lenderChosen(int man, int used) {
        int most = mostMatched(lendersFor, man, used);
        for (int lender = 0; lender < MOST_PEOPLE; lender++) {
            if (((lendersFor[man] & ~used) >> lender & 1) != 0
                && 1 + mostMatched(lendersFor, man + 1, used | 1 << lender) == most) {
                return lender;
            }
        }
        return NOT_SO;
    }

    /** How many from man on can have a lender; man grows with each level, so six levels are all. */
    private static int mostMatched(int[] lendersFor, int man, int used) {
        if (man < 0 || man >= lendersFor.length) {
            return 0;
        }
        int most = mostMatched(lendersFor, man + 1, used);
        for (int lender = 0; lender < MOST_PEOPLE; lender++) {
            if (((lendersFor[man] & ~used) >> lender & 1) != 0) {
                most = Math.max(most, 1 + mostMatched(lendersFor, man + 1, used | 1 << lender));
            }
        }
        return most;
    }

    // ---- FACTS, and how long a candle was

    public int see(int hours, int man, int inch, boolean isLeft) {
        if (hours < 1 || hours > 60 || !isPerson(man) || !isInch(inch)) {
            return NONE;
        }
        return facts.add(hours, man, inch, isLeft);
    }

    public int strike(int fact) {
        return facts.addStrike(fact);
    }

    public boolean known(int n) {
        return facts.setKnownBy(n);
    }

    public int lengths(int man) {
        return isPerson(man) ? lengthsOf(man) : NONE;
    }

    private int lengthsOf(int man) {
        int counting = facts.counting();
        for (int other = 0; other < told.people; other++) {
            if (other != man && !isAsKnown(counting, other, told.inches[other])) {
                return 0;
            }
        }
        int bits = 0;
        for (int length = 1; length <= MOST_LENGTH; length++) {
            if (isAsKnown(counting, man, length)) {
                bits |= 1 << (length - 1);
            }
        }
        return bits;
    }

    /** Whether the FACTS of one that count are so, if the candle was so long. */
    private boolean isAsKnown(int counting, int man, int length) {
        int latest = facts.latestHours(counting, man);
        beginWith(man, length);
        for (int hours = 1; hours <= latest; hours++) {
            course.pass(then, 1 << man, false);
            if (!facts.areSo(counting, hours, man, then)) {
                return false;
            }
        }
        return true;
    }

    private void beginWith(int man, int length) {
        course.begin(told, AS_IT_GOES);
        then.begin(told);
        then.inches[man] = length;
    }

    public int ask(int man, int what) {
        if (!isPerson(man) || (what != 0 && what != 1)) {
            return NONE;
        }
        int lengths = lengthsOf(man);
        int all = Integer.bitCount(lengths);
        countLeft(man, lengths);
        int best = 0;
        for (int inch = 1; inch < leftAt.length; inch++) {
            if (atWorst(inch, all) < atWorst(best, all)) {
                best = inch;
            }
        }
        return what == 0 ? best : atWorst(best, all);
    }

    private int atWorst(int inch, int all) {
        return Math.max(leftAt[inch], all - leftAt[inch]);
    }

    private void countLeft(int man, int lengths) {
        Arrays.fill(leftAt, 0);
        for (int length = 1; length <= MOST_LENGTH; length++) {
            if ((lengths >> (length - 1) & 1) != 0) {
                beginWith(man, length);
                for (int k = 0; k < ASKED_HOURS; k++) {
                    course.pass(then, 1 << man, false);
                }
                addLeft(man);
            }
        }
    }

    private void addLeft(int man) {
        for (int inch = 0; inch < leftAt.length; inch++) {
            if (then.isLeft(man, inch)) {
                leftAt[inch]++;
            }
        }
    }

    // ---- classes inside

    /** What a TEXT tells. */
    private static final class Told {
        int people;
        final int[] names = new int[MOST_PEOPLE];
        final int[] inches = new int[MOST_PEOPLE];
        final long[] junes = new long[MOST_PEOPLE];
        final int[] lendersOf = new int[MOST_PEOPLE];
        int junesTold;
        int lendsTold;
        final Deeds lights = new Deeds(MOST_LIGHTS);
        final Deeds blows = new Deeds(MOST_BLOWS);
        final Laws laws = new Laws();
        int draft;
        int seed;
        boolean hasDraft;
        boolean hasSeed;

        void forget() {
            people = 0;
            Arrays.fill(junes, 0);
            Arrays.fill(lendersOf, 0);
            junesTold = 0;
            lendsTold = 0;
            lights.size = 0;
            blows.size = 0;
            laws.forget();
            draft = 0;
            seed = 0;
            hasDraft = false;
            hasSeed = false;
        }

        int find(int letters) {
            for (int man = 0; man < people; man++) {
                if (names[man] == letters) {
                    return man;
                }
            }
            return NONE;
        }

        void addPerson(int letters, int length) {
            if (people < MOST_PEOPLE) {
                names[people] = letters;
                inches[people] = length;
                people++;
            }
        }

        boolean isJune(int man, int inch) {
            return (junes[man] >> inch & 1) != 0;
        }

        boolean isSeeing(int litMen, int man) {
            return (litMen & (lendersOf[man] | 1 << man)) != 0;
        }

        boolean isWindyAsItGoes() {
            return draft >= 50;
        }
    }

    /** LIGHTS, or BLOWS. */
    private static final class Deeds {
        int size;
        private final int most;
        final int[] men = new int[MOST_LIGHTS];
        final int[] ends = new int[MOST_LIGHTS];
        final int[] hours = new int[MOST_LIGHTS];

        Deeds(int atMost) {
            most = Math.min(atMost, MOST_LIGHTS);
        }

        boolean isFull() {
            return size >= most;
        }

        boolean isDue(int k, int hour, int ofMen) {
            return hours[k] == hour && (ofMen >> men[k] & 1) != 0;
        }

        void add(int man, int end, int hour) {
            if (!isFull()) {
                men[size] = man;
                ends[size] = end;
                hours[size] = hour;
                size++;
            }
        }
    }

    /** The E of each RULE, its KNOTS in a row: what a sign joins stands ahead of it. */
    private static final class Laws {
        int knots;
        private int placed;
        private final int[] kinds = new int[MOST_KNOTS];
        private final int[] numbers = new int[MOST_KNOTS];
        private final int[] from = new int[RULES];
        private final int[] to = new int[RULES];
        private final long[] values = new long[MOST_KNOTS];

        void forget() {
            knots = 0;
            placed = 0;
            Arrays.fill(from, 0);
            Arrays.fill(to, 0);
        }

        boolean isTold(int rule) {
            return rule >= 0 && rule < RULES && from[rule] < to[rule];
        }

        void place(int kind, int number) {
            if (placed < MOST_KNOTS) {
                kinds[placed] = kind;
                numbers[placed] = number;
                placed++;
            }
        }

        int placedSoFar() {
            return placed;
        }

        void setRule(int rule, int start) {
            if (rule >= 0 && rule < RULES) {
                from[rule] = start;
                to[rule] = placed;
            }
        }

        /** ERROR, too, if there is no such law. */
        long worth(int rule, Candles candles, int man, boolean windy) {
            if (!isTold(rule)) {
                return ERROR;
            }
            int deep = 0;
            for (int k = from[rule]; k < to[rule]; k++) {
                int takes = takenBy(kinds[k]);
                if (deep < takes || deep - takes >= MOST_KNOTS) {
                    return ERROR;
                }
                deep -= takes;
                long value = takes == 0
                    ? ownWorth(k, candles, man, windy)
                    : joined(kinds[k], values[deep], takes == 2 ? values[deep + 1] : 0);
                if (value > MOST_WORTH || value < -MOST_WORTH) {
                    return ERROR;
                }
                values[deep] = value;
                deep++;
            }
            return deep == 1 ? values[0] : ERROR;
        }

        private static int takenBy(int kind) {
            if (kind == NOT) {
                return 1;
            }
            return TextReading.isBinary(kind) ? 2 : 0;
        }

        private long ownWorth(int k, Candles candles, int man, boolean windy) {
            switch (kinds[k]) {
                case LEFT:
                    return candles.leftOf(man);
                case LIT:
                    return Integer.bitCount(candles.lit[man]);
                case JUNES:
                    return Long.bitCount(candles.junesIn(man));
                case WINDY:
                    return windy ? 1 : 0;
                case TOP:
                    return candles.top[man];
                case LOW:
                    return candles.low[man];
                case HOUR:
                    return candles.hour;
                default:
                    return numbers[k];
            }
        }

        private static long joined(int kind, long a, long b) {
            switch (kind) {
                case NOT:
                    return a == 0 ? 1 : 0;
                case OR:
                    return a != 0 || b != 0 ? 1 : 0;
                case AND:
                    return a != 0 && b != 0 ? 1 : 0;
                case PLUS:
                    return a + b;
                case MINUS:
                    return a - b;
                case TIMES:
                    return product(a, b);
                case OVER:
                    return b == 0 ? ERROR : a / b;
                default:
                    return isSo(kind, a, b) ? 1 : 0;
            }
        }

        /** Tested ahead of it: a product beyond a long would come round as a small one. */
        private static long product(long a, long b) {
            long size = a < 0 ? -a : a;
            long other = b < 0 ? -b : b;
            return size != 0 && other > MOST_WORTH / size ? ERROR : a * b;
        }

        private static boolean isSo(int kind, long a, long b) {
            switch (kind) {
                case LESS:
                    return a < b;
                case LESS_OR_EQUAL:
                    return a <= b;
                case EQUAL:
                    return a == b;
                case UNEQUAL:
                    return a != b;
                case GREATER_OR_EQUAL:
                    return a >= b;
                default:
                    return a > b;
            }
        }
    }

    /** The TOKENS of a TEXT, one behind another. */
    private static final class Tokens {
        private int[] bytes = new int[0];
        private int length;
        private int at;
        int kind;
        int place;
        /** Of a word its letters, packed; of a number how much it is, 1000000 at most. */
        int value;

        void begin(int[] tape, int n) {
            bytes = tape;
            length = Math.min(n, tape.length);
            at = 0;
            step();
        }

        private int signAt(int where) {
            return where >= 0 && where < length ? bytes[where] : END;
        }

        void step() {
            while (at < length && (bytes[at] == 10 || bytes[at] == 32)) {
                at++;
            }
            place = at;
            int sign = signAt(at);
            if (sign == END) {
                kind = END;
            } else if (isLetter(sign)) {
                stepWord();
            } else if (isDigit(sign)) {
                stepNumber();
            } else {
                kind = signKind(sign, signAt(at + 1));
                at += isTwoSigns(kind) ? 2 : 1;
            }
        }

        private static boolean isLetter(int sign) {
            return sign >= 'a' && sign <= 'z';
        }

        private static boolean isDigit(int sign) {
            return sign >= '0' && sign <= '9';
        }

        private void stepWord() {
            value = 0;
            while (at < length && isLetter(bytes[at])) {
                int behind = 5 - (at - place);
                if (behind >= 0) {
                    value |= (bytes[at] - 'a' + 1) << (5 * behind);
                }
                at++;
            }
            kind = at - place > 6 ? NO_TOKEN : wordKind(value);
        }

        private static int wordKind(int letters) {
            for (int k = 0; k < WORDS.length; k++) {
                if (WORDS[k] == letters) {
                    return k;
                }
            }
            return NAME;
        }

        private void stepNumber() {
            value = 0;
            while (at < length && isDigit(bytes[at])) {
                value = Math.min(1000000, value * 10 + bytes[at] - '0');
                at++;
            }
            kind = NUMBER;
        }

        private static boolean isTwoSigns(int kind) {
            return kind == LESS_OR_EQUAL || kind == UNEQUAL || kind == GREATER_OR_EQUAL;
        }

        private static int signKind(int sign, int behind) {
            switch (sign) {
                case ';':
                    return SEMICOLON;
                case '(':
                    return OPEN;
                case ')':
                    return CLOSE;
                case '<':
                    return behind == '=' ? LESS_OR_EQUAL : behind == '>' ? UNEQUAL : LESS;
                case '=':
                    return EQUAL;
                case '>':
                    return behind == '=' ? GREATER_OR_EQUAL : GREATER;
                case '+':
                    return PLUS;
                case '-':
                    return MINUS;
                case '*':
                    return TIMES;
                case '/':
                    return OVER;
                default:
                    return NO_TOKEN;
            }
        }
    }

    /** Reads a TEXT, and keeps the FAULT of the latest one. */
    private static final class TextReading {
        int wrong;
        int wrongPlace = NONE;
        private final Tokens tokens = new Tokens();
        private Told told = new Told();
        /** Signs and '(' whose right side isn't read to its end. */
        private final int[] waiting = new int[MOST_KNOTS + MOST_OPEN];
        private int waits;
        private int open;

        /** How many LINES; below 0 with a FAULT. */
        int read(int[] tape, int n, Told into) {
            told = into;
            told.forget();
            wrong = 0;
            wrongPlace = NONE;
            tokens.begin(tape, n);
            int lines = 0;
            while (lines <= n && tokens.kind != END) {
                if (!readLine() || !isNext(SEMICOLON)) {
                    return NONE;
                }
                tokens.step();
                lines++;
            }
            return lines;
        }

        private boolean fails(int what) {
            wrong = what;
            wrongPlace = tokens.place;
            return false;
        }

        private boolean isNext(int kind) {
            return tokens.kind == kind || fails(STRANGE);
        }

        private boolean isNumber(int least, int most) {
            if (!isNext(NUMBER)) {
                return false;
            }
            return (tokens.value >= least && tokens.value <= most) || fails(TOO_MUCH);
        }

        private boolean isPersonTold() {
            if (!isNext(NAME)) {
                return false;
            }
            return told.find(tokens.value) >= 0 || fails(NOBODY);
        }

        private boolean readLine() {
            switch (tokens.kind) {
                case MAN:
                    return readPerson();
                case JUNE:
                    return readJune();
                case LIGHT:
                    return readDeed(told.lights);
                case BLOW:
                    return readDeed(told.blows);
                case LEND:
                    return readLend();
                case DRAFT:
                    return readDraft();
                case SEED:
                    return readSeed();
                case LAW:
                    return readLaw();
                default:
                    return fails(STRANGE);
            }
        }

        private boolean readPerson() {
            if (told.people >= MOST_PEOPLE) {
                return fails(TOO_MUCH);
            }
            tokens.step();
            if (!isNext(NAME)) {
                return false;
            }
            int letters = tokens.value;
            if (told.find(letters) >= 0) {
                return fails(TOLD_ALREADY);
            }
            tokens.step();
            if (!isNumber(1, MOST_INCHES)) {
                return false;
            }
            told.addPerson(letters, tokens.value);
            tokens.step();
            return true;
        }

        private boolean readJune() {
            if (told.junesTold >= MOST_JUNES) {
                return fails(TOO_MUCH);
            }
            tokens.step();
            if (!isPersonTold()) {
                return false;
            }
            int man = told.find(tokens.value);
            tokens.step();
            if (!isNumber(0, MOST_INCHES - 1)) {
                return false;
            }
            if (told.isJune(man, tokens.value)) {
                return fails(TOLD_ALREADY);
            }
            told.junes[man] |= 1L << tokens.value;
            told.junesTold++;
            tokens.step();
            return true;
        }

        private boolean readDeed(Deeds deeds) {
            if (deeds.isFull()) {
                return fails(TOO_MUCH);
            }
            tokens.step();
            if (!isPersonTold()) {
                return false;
            }
            int man = told.find(tokens.value);
            tokens.step();
            if (!isNumber(0, 1)) {
                return false;
            }
            int end = tokens.value;
            tokens.step();
            if (!isNumber(0, 99)) {
                return false;
            }
            deeds.add(man, end, tokens.value);
            tokens.step();
            return true;
        }

        private boolean readLend() {
            if (told.lendsTold >= MOST_LENDS) {
                return fails(TOO_MUCH);
            }
            tokens.step();
            if (!isPersonTold()) {
                return false;
            }
            int lender = told.find(tokens.value);
            tokens.step();
            if (!isPersonTold()) {
                return false;
            }
            int man = told.find(tokens.value);
            if (lender == man) {
                return fails(ONESELF);
            }
            if ((told.lendersOf[man] >> lender & 1) != 0) {
                return fails(TOLD_ALREADY);
            }
            told.lendersOf[man] |= 1 << lender;
            told.lendsTold++;
            tokens.step();
            return true;
        }

        private boolean readDraft() {
            if (told.hasDraft) {
                return fails(TOLD_ALREADY);
            }
            tokens.step();
            if (!isNumber(0, 100)) {
                return false;
            }
            told.hasDraft = true;
            told.draft = tokens.value;
            tokens.step();
            return true;
        }

        private boolean readSeed() {
            if (told.hasSeed) {
                return fails(TOLD_ALREADY);
            }
            tokens.step();
            if (!isNumber(0, 99999)) {
                return false;
            }
            told.hasSeed = true;
            told.seed = tokens.value;
            tokens.step();
            return true;
        }

        private boolean readLaw() {
            tokens.step();
            if (tokens.kind < BURN || tokens.kind > RECALL) {
                return fails(STRANGE);
            }
            int rule = tokens.kind - BURN;
            if (told.laws.isTold(rule)) {
                return fails(TOLD_ALREADY);
            }
            tokens.step();
            int start = told.laws.placedSoFar();
            if (!readExpression()) {
                return false;
            }
            told.laws.setRule(rule, start);
            return true;
        }

        /** Reads E up to the TOKEN that can't belong to it. */
        private boolean readExpression() {
            waits = 0;
            open = 0;
            boolean wantsPart = true;
            boolean mayBeNot = true;
            for (int k = 0; k <= MOST_TAPE; k++) {
                int kind = tokens.kind;
                if (wantsPart) {
                    if (!takesPart(mayBeNot)) {
                        return false;
                    }
                    mayBeNot = kind == NOT || kind == OPEN;
                    wantsPart = mayBeNot;
                } else if (isBinary(kind)) {
                    if (!takesBinary(kind)) {
                        return false;
                    }
                    mayBeNot = kind == AND || kind == OR;
                    wantsPart = true;
                } else if (open == 0) {
                    placeDownTo(1);
                    return true;
                } else if (kind == CLOSE) {
                    placeDownTo(1);
                    waits--;
                    open--;
                } else {
                    return fails(STRANGE);
                }
                tokens.step();
            }
            return fails(STRANGE);
        }

        private boolean takesPart(boolean mayBeNot) {
            int kind = tokens.kind;
            if (kind == OPEN) {
                if (open >= MOST_OPEN) {
                    return fails(TOO_MUCH);
                }
                open++;
                holdBack(kind);
                return true;
            }
            if (kind == NOT && mayBeNot) {
                if (!takesKnot()) {
                    return false;
                }
                holdBack(kind);
                return true;
            }
            if (kind != NUMBER && (kind < LEFT || kind > HOUR)) {
                return fails(STRANGE);
            }
            if (kind == NUMBER && tokens.value > MOST_NUMBER) {
                return fails(TOO_MUCH);
            }
            if (!takesKnot()) {
                return false;
            }
            told.laws.place(kind, tokens.value);
            return true;
        }

        private boolean takesBinary(int kind) {
            int level = levelOf(kind);
            placeDownTo(level + 1);
            boolean compares = level == levelOf(EQUAL);
            if (compares && waits > 0 && levelOf(waiting[waits - 1]) == level) {
                // S < S is no S, so a second comparison has no place here
                return fails(STRANGE);
            }
            if (!takesKnot()) {
                return false;
            }
            placeDownTo(level);
            holdBack(kind);
            return true;
        }

        private boolean takesKnot() {
            if (told.laws.knots >= MOST_KNOTS) {
                return fails(TOO_MUCH);
            }
            told.laws.knots++;
            return true;
        }

        private void holdBack(int kind) {
            if (waits < waiting.length) {
                waiting[waits] = kind;
                waits++;
            }
        }

        /** Places what waits and binds so closely at least, the latest first. */
        private void placeDownTo(int level) {
            while (waits > 0 && levelOf(waiting[waits - 1]) >= level) {
                waits--;
                told.laws.place(waiting[waits], 0);
            }
        }

        static boolean isBinary(int kind) {
            return kind == OR || kind == AND || (kind >= LESS && kind <= OVER);
        }

        /** How closely a sign binds; an '(' lets none pass. */
        private static int levelOf(int kind) {
            switch (kind) {
                case OPEN:
                    return 0;
                case OR:
                    return 1;
                case AND:
                    return 2;
                case NOT:
                    return 3;
                case PLUS:
                case MINUS:
                    return 5;
                case TIMES:
                case OVER:
                    return 6;
                default:
                    return 4;
            }
        }
    }

    /** How all candles are, and what has been so far: all that an IMAGE keeps. */
    private static final class Candles {
        private int people;
        final int[] inches = new int[MOST_PEOPLE];
        final long[] junes = new long[MOST_PEOPLE];
        final int[] top = new int[MOST_PEOPLE];
        final int[] low = new int[MOST_PEOPLE];
        /** 1: the TOP is LIT, 2: the LOW end, in sum. */
        final int[] lit = new int[MOST_PEOPLE];
        final int[] seen = new int[MOST_PEOPLE];
        int hour;
        int glow;
        int idle;
        int number;

        void begin(Told told) {
            people = told.people;
            System.arraycopy(told.inches, 0, inches, 0, MOST_PEOPLE);
            System.arraycopy(told.junes, 0, junes, 0, MOST_PEOPLE);
            Arrays.fill(top, 0);
            Arrays.fill(low, 0);
            Arrays.fill(lit, 0);
            Arrays.fill(seen, 0);
            hour = 0;
            glow = 0;
            idle = 0;
            number = told.seed;
        }

        void copy(Candles other) {
            people = other.people;
            System.arraycopy(other.inches, 0, inches, 0, MOST_PEOPLE);
            System.arraycopy(other.junes, 0, junes, 0, MOST_PEOPLE);
            System.arraycopy(other.top, 0, top, 0, MOST_PEOPLE);
            System.arraycopy(other.low, 0, low, 0, MOST_PEOPLE);
            System.arraycopy(other.lit, 0, lit, 0, MOST_PEOPLE);
            System.arraycopy(other.seen, 0, seen, 0, MOST_PEOPLE);
            hour = other.hour;
            glow = other.glow;
            idle = other.idle;
            number = other.number;
        }

        int leftOf(int man) {
            return inches[man] - top[man] - low[man];
        }

        boolean isLeft(int man, int inch) {
            return inch >= top[man] && inch < inches[man] - low[man];
        }

        /** The inches of JUNES LEFT, as bits. */
        long junesIn(int man) {
            long ahead = (1L << top[man]) - 1;
            long upToLow = (1L << (inches[man] - low[man])) - 1;
            return junes[man] & upToLow & ~ahead;
        }

        int junesLeft(int man) {
            return Long.bitCount(junesIn(man));
        }

        boolean isLit(int man, int end) {
            return (lit[man] >> end & 1) != 0;
        }

        boolean canBeLit(int man, int end) {
            return !isLit(man, end) && leftOf(man) > 0;
        }

        void lightOrIdle(int man, int end) {
            if (canBeLit(man, end)) {
                lit[man] |= 1 << end;
            } else {
                idle++;
            }
        }

        void blowOrIdle(int man, int end) {
            if (isLit(man, end)) {
                lit[man] &= ~(1 << end);
            } else {
                idle++;
            }
        }

        void shorten(int man, int end, int by) {
            int gone = Math.min(by, leftOf(man));
            if (end == 0) {
                top[man] += gone;
            } else {
                low[man] += gone;
            }
            if (leftOf(man) == 0) {
                lit[man] = 0;
            }
        }

        int litMen() {
            int bits = 0;
            for (int man = 0; man < people; man++) {
                bits |= lit[man] == 0 ? 0 : 1 << man;
            }
            return bits;
        }

        int outMen() {
            int bits = 0;
            for (int man = 0; man < people; man++) {
                bits |= leftOf(man) == 0 ? 1 << man : 0;
            }
            return bits;
        }

        int howManyOut() {
            return Integer.bitCount(outMen());
        }

        int howManyLit() {
            int sum = 0;
            for (int man = 0; man < people; man++) {
                sum += Integer.bitCount(lit[man]);
            }
            return sum;
        }

        int leftOfAll() {
            int sum = 0;
            for (int man = 0; man < people; man++) {
                sum += leftOf(man);
            }
            return sum;
        }

        int seenOfAll() {
            int sum = 0;
            for (int man = 0; man < people; man++) {
                sum += seen[man];
            }
            return sum;
        }
    }

    /** How HOURS go by. */
    private static final class Course {
        private Told told = new Told();
        private int wind;
        int unburnt = NONE;
        boolean noBlows;
        boolean noBurnLaw;

        void begin(Told from, int howWindy) {
            told = from;
            wind = howWindy;
            unburnt = NONE;
            noBlows = false;
            noBurnLaw = false;
        }

        /** An HOUR of these alone; looking: it matters who SEES what. */
        void pass(Candles candles, int men, boolean looking) {
            lightAndBlow(candles, men);
            boolean windy = isWindy(candles);
            if (looking) {
                shine(candles, windy);
            }
            for (int man = 0; man < told.people; man++) {
                for (int end = 0; end < 2 && (men >> man & 1) != 0 && man != unburnt; end++) {
                    // no end is LIT of one that is OUT, so the LOW end stays if the TOP took all
                    if (candles.isLit(man, end)) {
                        long worth = noBurnLaw ? ERROR : told.laws.worth(BURN_RULE, candles, man, windy);
                        int without = windy ? 2 : 1;
                        candles.shorten(man, end, worth == ERROR ? without : within(worth, 9));
                    }
                }
            }
            candles.hour++;
        }

        private void lightAndBlow(Candles candles, int men) {
            Deeds lights = told.lights;
            for (int k = 0; k < lights.size; k++) {
                if (lights.isDue(k, candles.hour, men)) {
                    candles.lightOrIdle(lights.men[k], lights.ends[k]);
                }
            }
            Deeds blows = told.blows;
            for (int k = 0; k < blows.size && !noBlows; k++) {
                if (blows.isDue(k, candles.hour, men)) {
                    candles.blowOrIdle(blows.men[k], blows.ends[k]);
                }
            }
        }

        private boolean isWindy(Candles candles) {
            switch (wind) {
                case BY_NUMBERS:
                    return isWindyByNumber(candles);
                case NEVER:
                    return false;
                case ALWAYS:
                    return true;
                default:
                    return told.isWindyAsItGoes();
            }
        }

        private boolean isWindyByNumber(Candles candles) {
            if (told.draft == 0 || told.draft == 100) {
                return told.draft == 100;
            }
            candles.number = (int) ((candles.number * 1103515245L + 12345L) & 0x7fffffffL);
            return candles.number / 65536 % 100 < told.draft;
        }

        private void shine(Candles candles, boolean windy) {
            int litMen = candles.litMen();
            for (int man = 0; man < told.people; man++) {
                if (told.isSeeing(litMen, man)) {
                    candles.seen[man] = Math.min(MOST_SEEN, candles.seen[man] + 1);
                }
                if (candles.lit[man] != 0) {
                    long worth = told.laws.worth(GLOW_RULE, candles, man, windy);
                    int without = Integer.bitCount(candles.lit[man]);
                    int more = worth == ERROR ? without : within(worth, 999);
                    candles.glow = Math.min(MOST_GLOW, candles.glow + more);
                }
            }
        }
    }

    /** How single candles were ahead of what was done by call, the latest last. */
    private static final class Undoing {
        int size;
        private final int[] men = new int[MOST_UNDONE];
        private final int[] tops = new int[MOST_UNDONE];
        private final int[] lows = new int[MOST_UNDONE];
        private final int[] lits = new int[MOST_UNDONE];

        void forget() {
            size = 0;
        }

        void put(Candles candles, int man) {
            if (size == MOST_UNDONE) {
                dropFirst(men);
                dropFirst(tops);
                dropFirst(lows);
                dropFirst(lits);
                size--;
            }
            men[size] = man;
            tops[size] = candles.top[man];
            lows[size] = candles.low[man];
            lits[size] = candles.lit[man];
            size++;
        }

        private static void dropFirst(int[] row) {
            System.arraycopy(row, 1, row, 0, row.length - 1);
        }

        void takeBack(Candles candles) {
            if (size > 0) {
                size--;
                int man = men[size];
                candles.top[man] = tops[size];
                candles.low[man] = lows[size];
                candles.lit[man] = lits[size];
            }
        }
    }

    /** SEEN FACTS and those that strike them. */
    private static final class Facts {
        int size;
        private int knownOf = NONE;
        private final int[] hours = new int[MOST_FACTS];
        private final int[] men = new int[MOST_FACTS];
        private final int[] inches = new int[MOST_FACTS];
        private final int[] isLeft = new int[MOST_FACTS];
        /** The one that it strikes; NONE of one SEEN. */
        private final int[] strikes = new int[MOST_FACTS];

        void forget() {
            size = 0;
            knownOf = NONE;
        }

        int add(int behind, int man, int inch, boolean left) {
            if (size >= MOST_FACTS) {
                return NONE;
            }
            hours[size] = behind;
            men[size] = man;
            inches[size] = inch;
            isLeft[size] = left ? 1 : 0;
            strikes[size] = NONE;
            return size++;
        }

        int addStrike(int fact) {
            if (fact < 0 || fact >= size || size >= MOST_FACTS) {
                return NONE;
            }
            strikes[size] = fact;
            return size++;
        }

        boolean setKnownBy(int n) {
            if (n < NONE || n > size) {
                return false;
            }
            knownOf = n;
            return true;
        }

        int knownBy() {
            return knownOf == NONE ? size : knownOf;
        }

        /** The SEEN ones that are KNOWN, as bits. */
        int counting() {
            int struck = 0;
            int bits = 0;
            for (int fact = knownBy() - 1; fact >= 0; fact--) {
                if ((struck >> fact & 1) == 0) {
                    if (strikes[fact] >= 0) {
                        struck |= 1 << strikes[fact];
                    } else {
                        bits |= 1 << fact;
                    }
                }
            }
            return bits;
        }

        int latestHours(int counting, int man) {
            int latest = 0;
            for (int fact = 0; fact < size; fact++) {
                if ((counting >> fact & 1) != 0 && men[fact] == man) {
                    latest = Math.max(latest, hours[fact]);
                }
            }
            return latest;
        }

        boolean areSo(int counting, int behind, int man, Candles candles) {
            for (int fact = 0; fact < size; fact++) {
                if ((counting >> fact & 1) != 0 && men[fact] == man && hours[fact] == behind
                    && candles.isLeft(man, inches[fact]) != (isLeft[fact] == 1)) {
                    return false;
                }
            }
            return true;
        }
    }

    /** What times can be had by two candles. */
    private static final class Pair {
        /** Of each time how few ends are LIT ahead of it; 0: it can't be had. */
        final int[] fewest = new int[MOST_INCHES + 1];

        void burn(int one, int other) {
            Arrays.fill(fewest, 0);
            for (int ends = 0; ends <= 2; ends++) {
                for (int others = 0; others <= 2; others++) {
                    if (canHave(one, ends) && canHave(other, others)) {
                        burnSo(one, ends, other, others);
                    }
                }
            }
        }

        private static boolean canHave(int left, int ends) {
            return left > 0 || ends == 0;
        }

        private void burnSo(int one, int ends, int other, int others) {
            int time = timeOf(one, ends);
            int otherTime = timeOf(other, others);
            if (time > 0 && (otherTime == 0 || time <= otherTime)) {
                note(time, ends + others);
                burnOn(time, ends, other - others * time, others);
            }
            if (otherTime > 0 && (time == 0 || otherTime <= time)) {
                note(otherTime, ends + others);
                burnOn(otherTime, others, one - ends * otherTime, ends);
            }
        }

        /** 0: it doesn't burn. */
        private static int timeOf(int left, int ends) {
            return ends == 0 ? 0 : (left + ends - 1) / ends;
        }

        /** The one that is left, once the other one is OUT. */
        private void burnOn(int time, int spent, int left, int ends) {
            for (int more = Math.max(1, ends); more <= 2 && left > 0; more++) {
                note(time + timeOf(left, more), spent + more);
            }
        }

        private void note(int time, int ends) {
            if (time >= 1 && time <= MOST_INCHES && (fewest[time] == 0 || ends < fewest[time])) {
                fewest[time] = ends;
            }
        }
    }

    /** GAME: rows by how many inches are left, each by the first one of these. */
    private static final class Turns {
        int more;
        int move;
        private final int[] gains = new int[MOST_INCHES];
        private final int[] now = new int[MOST_INCHES + 2];
        private final int[] oneFewer = new int[MOST_INCHES + 2];
        private final int[] twoFewer = new int[MOST_INCHES + 2];

        void play(long junes, int first, int left) {
            more = 0;
            move = 0;
            Arrays.fill(now, 0);
            Arrays.fill(oneFewer, 0);
            for (int inch = 0; inch < gains.length; inch++) {
                gains[inch] = inch < left ? (int) (junes >> (first + inch) & 1) : 0;
            }
            for (int length = 1; length <= left && length <= MOST_INCHES; length++) {
                System.arraycopy(oneFewer, 0, twoFewer, 0, twoFewer.length);
                System.arraycopy(now, 0, oneFewer, 0, oneFewer.length);
                for (int from = 0; from + length <= left && from + length <= MOST_INCHES; from++) {
                    settle(from, length);
                    now[from] = more;
                }
            }
        }

        private void settle(int from, int length) {
            int end = from + length - 1;
            more = gains[from] - oneFewer[from + 1];
            move = 1;
            if (length > 1) {
                better(gains[from] + gains[from + 1] - twoFewer[from + 2], 2);
            }
            better(gains[end] - oneFewer[from], 11);
            if (length > 1) {
                better(gains[end] + gains[end - 1] - twoFewer[from], 12);
            }
        }

        private void better(int worth, int how) {
            if (worth > more) {
                more = worth;
                move = how;
            }
        }
    }
}
