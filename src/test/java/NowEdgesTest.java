/**
 * The edges that parts 2 and 4 of the document name (HOURS, laws, undoing, IMAGES), and promises 6 to 14 and
 * 35 to 38: of each sentence the last input that is taken and the first that isn't.
 */
public final class NowEdgesTest {
    private static final int MIN = Integer.MIN_VALUE;
    private static final int MAX = Integer.MAX_VALUE;

    public static void main(String[] args) {
        outIsNotLit();
        seesByWhom();
        lightsOfAnHour();
        idleLights();
        blowsOfAnHour();
        windyBelowDraft();
        numbersComeRound();
        seenAtMost();
        glowIsPut();
        glowAtMost();
        burnIsPut();
        burnWithoutLaw();
        burnTakesAllThatAreLeft();
        lowEndBurnsAfterTheTop();
        namesOfLaws();
        valuesAtTheirLimits();
        divisions();
        bothSidesAreWorkedOut();
        asItGoesAtFifty();
        man();
        june();
        lenders();
        recall();
        law();
        light();
        blow();
        cut();
        go();
        goBehindTheLastHour();
        undo();
        undoTwentyAtMost();
        undoTwentyOfAllKinds();
        undoneByHours();
        keepAndBack();
        imageKeepsAllBut();
        count();
        Check.finish();
    }

    // ---- part 2: HOURS

    /** "OUT: nothing is LEFT (no end of it is LIT then)" */
    private static void outIsNotLit() {
        BurntEnds x = Check.told("man a 2;light a 0 0;light a 1 0;");
        x.light(0, 0);
        x.cut(0, 0, 1);
        Check.due("one LEFT: LIT", Check.man(x, 0, 4), 1);
        x.undo();
        x.go(1);
        Check.due("OUT by burning", Check.man(x, 0, 4), 0);
        Check.due("no end", x.count(8), 0);
        Check.due("one OUT", x.count(7), 1);
        BurntEnds y = Check.told("man a 2;");
        y.light(0, 0);
        y.light(0, 1);
        y.cut(0, 1, 2);
        Check.due("OUT by cutting", Check.man(y, 0, 4), 0);
        y.go(1);
        Check.due("it doesn't burn", y.count(9) + y.count(11), 0);
    }

    /** "A SEES, if an end of the own candle is LIT, or of one's who LENDS to A." */
    private static void seesByWhom() {
        BurntEnds x = Check.told("man a 9;man b 9;man c 9;lend a b;lend b c;");
        sees(x, "nobody", 0, 0, 0);
        x.light(0, 1);
        sees(x, "a, and b by a; c doesn't by b, who is not LIT", 1, 1, 0);
        x.cut(0, 0, 9);
        sees(x, "nobody by one OUT", 0, 0, 0);
        x.light(1, 0);
        sees(x, "b and c; who is lent to doesn't lend back", 0, 1, 1);
        x.blow(1, 0);
        sees(x, "nobody again", 0, 0, 0);
    }

    private static void sees(BurntEnds x, String what, int a, int b, int c) {
        Check.due(what, Check.man(x, 0, 6) * 100 + Check.man(x, 1, 6) * 10 + Check.man(x, 2, 6), a * 100 + b * 10 + c);
    }

    /** "(1) LIGHTS of this HOUR": 0 and 99 are the first and the last one */
    private static void lightsOfAnHour() {
        BurntEnds x = Check.told("man a 9;man b 9;light a 0 0;light b 1 99;");
        Check.due("nothing LIT at first", x.count(8), 0);
        x.go(1);
        Check.due("LIT in HOUR 0", Check.man(x, 0, 1), 8);
        x.go(98);
        Check.due("HOUR 99 isn't yet", Check.man(x, 1, 1) * 10 + Check.man(x, 1, 4), 90);
        x.go(1);
        Check.due("LIT in HOUR 99", Check.man(x, 1, 1) * 10 + Check.man(x, 1, 4), 82);
        BurntEnds y = Check.told("man a 9;light a 0 1;");
        y.go(3);
        y.blow(0, 0);
        y.go(3);
        Check.due("not again in a later HOUR", Check.man(y, 0, 1), 7);
    }

    /** "an end that isn't LIT, of a candle that isn't OUT, is LIT; else it is IDLE", "by their numbers" */
    private static void idleLights() {
        BurntEnds x = Check.told("man a 1;man b 9;light a 0 0;light a 1 0;light b 0 0;light b 0 0;light a 0 1;light b 0 2;");
        x.light(1, 1);
        x.go(1);
        Check.due("the second of two alike", x.count(10), 1);
        Check.due("a is OUT behind both", Check.man(x, 0, 1), 0);
        x.go(1);
        Check.due("of one OUT", x.count(10), 2);
        x.go(1);
        Check.due("of one LIT", x.count(10), 3);
        x.go(9);
        Check.due("no more", x.count(10), 3);
        Check.due("by call it isn't counted", x.light(0, 0) || x.blow(0, 0), false);
        Check.due("still", x.count(10), 3);
    }

    /** "(2) BLOWS likewise: an end that is LIT isn't any more; else it is IDLE." */
    private static void blowsOfAnHour() {
        BurntEnds x = Check.told("man a 9;man b 1;blow a 0 0;light a 0 0;blow a 0 0;blow a 1 1;light b 0 1;blow b 0 2;");
        x.go(1);
        Check.due("LIT, blown out, and the second BLOW is IDLE", x.count(10), 1);
        Check.due("nothing burnt", x.count(6), 10);
        Check.due("nobody SEES", x.count(11) + x.count(9), 0);
        x.go(1);
        Check.due("an end never LIT", x.count(10), 2);
        x.go(1);
        Check.due("of one OUT", x.count(10), 3);
        BurntEnds y = Check.told("man a 60;light a 0 0;blow a 0 99;law burn 0;");
        Check.due("HOUR 98 is still SEEN", y.ahead(99, 4, 0), 99);
        Check.due("blown out in HOUR 99", y.ahead(101, 4, 0), 99);
    }

    private static long next(long number) {
        return (number * 1103515245L + 12345L) & (1L << 31) - 1;
    }

    /** "a number modulo 100 (no number, if draft is 0 or 100) below draft" */
    private static void windyBelowDraft() {
        for (int seed = 0; seed < 30; seed++) {
            int told = (int) (next(seed) / 65536 % 100);
            for (int draft = told; draft <= told + 1; draft++) {
                BurntEnds x = Check.told("man a 9;light a 0 0;seed " + seed + ";draft " + draft + ";");
                x.go(1);
                Check.due("number " + told + ", draft " + draft, Check.man(x, 0, 1), draft > told ? 7 : 8);
            }
        }
    }

    /** "without what is above 31 bits, is the next one, whole; what is told of it is that by 65536" */
    private static void numbersComeRound() {
        BurntEnds x = Check.told("man a 60;light a 0 0;draft 99;seed 99999;law burn windy;");
        long number = 99999;
        int gone = 0;
        for (int k = 0; k < 20; k++) {
            number = next(number);
            gone += number / 65536 % 100 < 99 ? 1 : 0;
            x.go(1);
            Check.due("HOUR " + k, Check.man(x, 0, 1), 60 - gone);
        }
        BurntEnds y = Check.told("man a 60;light a 0 0;draft 50;law burn windy;");
        for (int seed : new int[] {0, 1, MAX, MAX - 1, 1 << 30}) {
            for (int n = 1; n <= 20; n++) {
                Check.due("chance from " + seed, y.chance(seed, n, 0, 60 - n / 2), times(seed, n, 60 - n / 2));
            }
        }
    }

    private static int times(long seed, int n, int left) {
        long number = seed;
        int times = 0;
        for (int draw = 0; draw < 10; draw++) {
            int has = 60;
            for (int k = 0; k < n; k++) {
                number = next(number);
                has -= number / 65536 % 100 < 50 ? 1 : 0;
            }
            times += has >= left ? 1 : 0;
        }
        return times;
    }

    /** "has SEEN one HOUR more (9999 at most)": HOURS end at 9800, so it is met by looking ahead alone */
    private static void seenAtMost() {
        BurntEnds x = Check.told("man a 60;light a 0 0;law burn 0;");
        for (int k = 0; k < 48; k++) {
            x.go(200);
        }
        x.go(199);
        Check.due("9799", Check.man(x, 0, 7), 9799);
        Check.due("9999", x.ahead(200, 4, 0), 200);
        x.go(1);
        Check.due("9800", Check.man(x, 0, 7), 9800);
        Check.due("9999", x.ahead(199, 4, 0), 199);
        Check.due("no more", x.ahead(200, 4, 0), 199);
    }

    /** "GLOW is more by E of glow of that one (put to 0 .. 999; how many ends of it are LIT without, with an ERROR)" */
    private static void glowIsPut() {
        int[][] puts = {{0, 0}, {1, 1}, {998, 998}, {999, 999}, {1000, 999}, {9999, 999}};
        for (int[] put : puts) {
            Check.due("glow " + put[0], glowOf("law glow " + put[0] + ";", 1), put[1]);
        }
        Check.due("-1", glowOf("law glow 0-1;", 1), 0);
        Check.due("far below", glowOf("law glow 0-9999*9999;", 1), 0);
        Check.due("far above", glowOf("law glow 9999*9999;", 1), 999);
        Check.due("without, one end", glowOf("", 1), 1);
        Check.due("without, two ends", glowOf("light a 1 0;", 1), 2);
        Check.due("an ERROR, one end", glowOf("law glow 1/0;", 1), 1);
        Check.due("an ERROR, two ends", glowOf("law glow 1/0;light a 1 0;", 1), 2);
        Check.due("no end LIT: none", glowOf("law glow 5;blow a 0 0;", 1), 0);
        BurntEnds lent = Check.told("man a 9;man b 9;lend b a;light b 0 0;law glow 5;");
        lent.go(1);
        Check.due("who SEES by another one's doesn't glow", lent.count(9), 5);
    }

    private static int glowOf(String words, int hours) {
        BurntEnds x = Check.told("man a 60;light a 0 0;law burn 0;" + words);
        x.go(hours);
        return x.count(9);
    }

    /** "99999 at most of all" */
    private static void glowAtMost() {
        String law = "law glow 999-(hour>=100)*";
        Check.due("99900", glowOf(law + "901;", 100), 99900);
        Check.due("99998", glowOf(law + "901;", 101), 99998);
        Check.due("99999 by 98 more", glowOf(law + "901;", 102), 99999);
        Check.due("99999 by 99 more", glowOf(law + "900;", 101), 99999);
        Check.due("no more by 100", glowOf(law + "899;", 101), 99999);
        Check.due("no more", glowOf("law glow 999;", 200), 99999);
        BurntEnds x = Check.told("man a 60;man b 60;light a 0 0;light b 0 0;law burn 0;law glow 999;");
        x.go(50);
        Check.due("of two", x.count(9), 99900);
        Check.due("99 more ahead", x.ahead(1, 3, 0), 99);
        x.go(1);
        Check.due("at most", x.count(9), 99999);
        Check.due("no more ahead", x.ahead(200, 3, 0), 0);
    }

    private static int burntBy(String words) {
        BurntEnds x = Check.told("man a 60;light a 0 0;" + words);
        x.go(1);
        return 60 - Check.man(x, 0, 1);
    }

    /** "as E of burn says (put to 0 .. 9 ..)" */
    private static void burnIsPut() {
        int[][] puts = {{0, 0}, {1, 1}, {8, 8}, {9, 9}, {10, 9}, {9999, 9}};
        for (int[] put : puts) {
            Check.due("burn " + put[0], burntBy("law burn " + put[0] + ";"), put[1]);
        }
        Check.due("-1", burntBy("law burn 0-1;"), 0);
        Check.due("far below", burntBy("law burn 0-9999*9999*9999;"), 0);
        Check.due("far above", burntBy("law burn 9999*9999*9999;"), 9);
        Check.due("both ends", burntBy("law burn 10;light a 1 0;"), 18);
    }

    /** "1, in a WINDY HOUR 2 without, with an ERROR" */
    private static void burnWithoutLaw() {
        Check.due("without", burntBy(""), 1);
        Check.due("with an ERROR", burntBy("law burn 1/0;"), 1);
        Check.due("in a WINDY HOUR", burntBy("draft 100;"), 2);
        Check.due("with an ERROR in a WINDY HOUR", burntBy("draft 100;law burn 1/0;"), 2);
        Check.due("both ends", burntBy("draft 100;light a 1 0;"), 4);
        Check.due("a law is asked in a WINDY HOUR, too", burntBy("draft 100;law burn 1;"), 1);
        Check.due("a law that says 0 is no ERROR", burntBy("draft 100;law burn 0;"), 0);
    }

    /** "all that are LEFT, if they are fewer" */
    private static void burnTakesAllThatAreLeft() {
        for (int inches = 1; inches <= 12; inches++) {
            BurntEnds top = Check.told("man a " + inches + ";light a 0 0;law burn 6;");
            top.go(1);
            Check.due("6 from the TOP of " + inches, Check.man(top, 0, 1), Math.max(0, inches - 6));
            Check.due("LIT, if some are LEFT", Check.man(top, 0, 4), inches > 6 ? 1 : 0);
            BurntEnds low = Check.told("man a " + inches + ";light a 1 0;law burn 6;");
            low.go(1);
            Check.due("6 from the LOW end of " + inches, Check.man(low, 0, 1), Math.max(0, inches - 6));
            Check.due("the first inch", Check.man(low, 0, 2), inches > 6 ? 0 : -2);
            BurntEnds both = Check.told("man a " + inches + ";light a 0 0;light a 1 0;law burn 6;law recall top*100+low;");
            both.go(1);
            int byTop = Math.min(inches, 6);
            Check.due("from both of " + inches, both.recall(0), byTop * 100 + inches - byTop);
        }
    }

    /** "then likewise from the LOW end, if it is LIT and not OUT (E asked anew)" */
    private static void lowEndBurnsAfterTheTop() {
        BurntEnds x = Check.told("man a 60;light a 0 0;light a 1 0;law burn top+1;law recall top*100+low;");
        x.go(1);
        Check.due("the LOW end's E knows of the TOP's", x.recall(0), 102);
        BurntEnds out = Check.told("man a 1;light a 0 0;light a 1 0;law recall top*100+low;");
        out.go(1);
        Check.due("OUT by the TOP: the LOW end takes none", out.recall(0), 100);
        BurntEnds two = Check.told("man a 2;light a 0 0;light a 1 0;law recall top*100+low;");
        two.go(1);
        Check.due("one each", two.recall(0), 101);
    }

    /** "NAMES" */
    private static void namesOfLaws() {
        BurntEnds x = Check.told("man a 9;man b 9;june a 0;june a 8;june a 9;light a 0 0;light a 1 1;draft 50;law burn 1;"
            + "law recall left*1000+lit*100+junes*10+windy;law glow top*100+low*10+hour;");
        Check.due("at first", x.law(2, 0), 9021);
        Check.due("at first", x.law(1, 0), 0);
        x.go(2);
        Check.due("burnt", x.law(2, 0), 6201);
        Check.due("burnt", x.law(1, 0), 212);
        x.cut(0, 0, 3);
        x.cut(0, 1, 2);
        Check.due("cut", x.law(2, 0), 1201);
        Check.due("cut", x.law(1, 0), 532);
        x.cut(0, 1, 1);
        Check.due("OUT", x.law(2, 0), 1);
        Check.due("OUT", x.law(1, 0), 542);
        Check.due("another one's", x.law(2, 1), 9001);
    }

    private static long worth(String expression) {
        return Check.told("man a 9;law recall " + expression + ";").law(2, 0);
    }

    /** "ERROR: .. a value above 10 to the 12 or below 0 by more than that" */
    private static void valuesAtTheirLimits() {
        String most = "1000*1000*1000*1000";
        Check.due("10 to the 12", worth(most), 1000000000000L);
        Check.due("one more", worth(most + "+1"), Long.MIN_VALUE);
        Check.due("one less", worth(most + "-1"), 999999999999L);
        Check.due("below 0 by that", worth("0-" + most), -1000000000000L);
        Check.due("by one more", worth("0-" + most + "-1"), Long.MIN_VALUE);
        Check.due("by one less", worth("0-" + most + "+1"), -999999999999L);
        Check.due("a product", worth("1001*1000*1000*1000"), Long.MIN_VALUE);
        Check.due("a product below", worth("(0-1001)*1000*1000*1000"), Long.MIN_VALUE);
        Check.due("of two below", worth("(0-1000)*(0-1000)*1000*1000"), 1000000000000L);
        Check.due("beyond on the way", worth(most + "*2/2"), Long.MIN_VALUE);
        Check.due("beyond a long", worth("(" + most + ")*(" + most + ")"), Long.MIN_VALUE);
        Check.due("round a long to 0", worth("(4096*4096*4096)*(4096*4096*4096)"), Long.MIN_VALUE);
        Check.due("0 by the most", worth("0*(" + most + ")"), 0);
        Check.due("the most by 0", worth("(" + most + ")*0"), 0);
        Check.due("the most and the most below", worth("(" + most + ")+(0-" + most + ")"), 0);
        Check.due("twice the most", worth("(" + most + ")+(" + most + ")"), Long.MIN_VALUE);
        Check.due("compared", worth("(" + most + ")>999"), 1);
        Check.due("an ERROR compared", worth("(" + most + "+1)>999"), Long.MIN_VALUE);
        Check.due("not of an ERROR", worth("not (" + most + "+1)"), Long.MIN_VALUE);
    }

    /** "/ is cut towards 0; ERROR: / by 0" */
    private static void divisions() {
        Check.due("7/2", worth("7/2"), 3);
        Check.due("-7/2", worth("(0-7)/2"), -3);
        Check.due("7/-2", worth("7/(0-2)"), -3);
        Check.due("-7/-2", worth("(0-7)/(0-2)"), 3);
        Check.due("-1/2", worth("(0-1)/2"), 0);
        Check.due("0/5", worth("0/5"), 0);
        Check.due("5/0", worth("5/0"), Long.MIN_VALUE);
        Check.due("0/0", worth("0/0"), Long.MIN_VALUE);
        Check.due("by a 0 worked out", worth("5/(3-3)"), Long.MIN_VALUE);
        Check.due("by a name that is 0", worth("5/top"), Long.MIN_VALUE);
        Check.due("1/-1", worth("1/(0-1)"), -1);
    }

    /** "comparisons, and, or, not are 1 or 0 (what isn't 0 is as 1, both sides are worked out)" */
    private static void bothSidesAreWorkedOut() {
        Check.due("1 or ERROR", worth("1 or 1/0"), Long.MIN_VALUE);
        Check.due("ERROR or 1", worth("1/0 or 1"), Long.MIN_VALUE);
        Check.due("0 and ERROR", worth("0 and 1/0"), Long.MIN_VALUE);
        Check.due("ERROR and 0", worth("1/0 and 0"), Long.MIN_VALUE);
        Check.due("0 times ERROR", worth("0*(1/0)"), Long.MIN_VALUE);
        int[] values = {-2, -1, 0, 1, 2};
        for (int a : values) {
            Check.due("not " + a, worth("not (" + (a + 2) + "-2)"), a == 0 ? 1 : 0);
            for (int b : values) {
                String both = "(" + (a + 2) + "-2)%(" + (b + 2) + "-2)";
                Check.due(a + " and " + b, worth(both.replace("%", " and ")), a != 0 && b != 0 ? 1 : 0);
                Check.due(a + " or " + b, worth(both.replace("%", " or ")), a != 0 || b != 0 ? 1 : 0);
            }
        }
        Check.due("-1 is as 1", worth("0-1 and 7"), 1);
        Check.due("7 or 7", worth("7 or 7"), 1);
        Check.due("not 7", worth("not 7"), 0);
        Check.due("not -1", worth("not 0-1"), 0);
        Check.due("not 0", worth("not 0"), 1);
        String[] signs = {"<", "<=", "=", "<>", ">=", ">"};
        int[] lessEqualMore = {100, 110, 10, 101, 11, 1};
        for (int k = 0; k < signs.length; k++) {
            long got = worth("(2" + signs[k] + "3)*100+(3" + signs[k] + "3)*10+(4" + signs[k] + "3)");
            Check.due(signs[k], got, lessEqualMore[k]);
            Check.due("below 0: " + signs[k], worth("(0-4" + signs[k] + "0-3)"), lessEqualMore[k] / 100);
        }
    }

    /** "AS IT GOES, and by call: without numbers: it is WINDY, if draft is 50 at least" */
    private static void asItGoesAtFifty() {
        for (int draft : new int[] {0, 1, 49, 50, 51, 99, 100}) {
            int windy = draft >= 50 ? 1 : 0;
            BurntEnds x = Check.told("man a 60;light a 0 0;draft " + draft + ";seed 5;law recall windy;");
            Check.due("law at " + draft, x.law(2, 0), windy);
            Check.due("recall at " + draft, x.recall(0), windy);
            Check.due("recall ahead at " + draft, x.ahead(3, 1, 0), windy);
            Check.due("left ahead at " + draft, x.ahead(10, 0, 0), 50 - 10 * windy);
            Check.due("ends at " + draft, x.ends(0), 60 - 30 * windy);
        }
    }

    // ---- promises 6 to 10

    /** "IndexOutOfBoundsException: no such PERSON. NoSuchElementException: no such what."; "(-2: OUT)" */
    private static void man() {
        BurntEnds x = Check.told("man a 1;man b 60;june b 59;");
        for (int what = 0; what <= 7; what++) {
            Check.due("what " + what, Check.man(x, 1, what) >= 0, true);
        }
        for (int wrong : new int[] {-1, 8, MIN, MAX}) {
            Twins.refused("what " + wrong, Twins::busy, y -> Check.man(y, 2, wrong), -102);
        }
        for (int wrong : new int[] {-1, 3, 6, MIN, MAX}) {
            Twins.refused("PERSON " + wrong, Twins::busy, y -> Check.man(y, wrong, 0), -101);
            Check.due("neither", Check.man(Twins.busy(), wrong, 8), -101);
        }
        Check.due("nobody", Check.man(new BurntEnds(), 0, 0), -101);
        Check.due("the only inch is the first", Check.man(x, 0, 2), 0);
        Check.due("and the last", Check.man(x, 0, 3), 0);
        Check.due("the last of 60", Check.man(x, 1, 3), 59);
        x.cut(0, 0, 1);
        int[] out = {1, 0, -2, -2, 0, 0, 0, 0};
        for (int what = 0; what < out.length; what++) {
            Check.due("OUT: " + what, Check.man(x, 0, what), out[what]);
        }
        x.cut(1, 1, 58);
        Check.due("the last of two", Check.man(x, 1, 3), 1);
        x.undo();
        x.cut(1, 0, 59);
        Check.due("the last inch alone", Check.man(x, 1, 2), 59);
        Check.due("its JUNE", Check.man(x, 1, 5), 1);
        x.light(1, 0);
        x.light(1, 1);
        Check.due("both ends in sum", Check.man(x, 1, 4), 3);
    }

    /** "Whether an inch 0 .. 59 of a PERSON is a JUNE that is LEFT (2), a JUNE that isn't (1), else 0. NONE" */
    private static void june() {
        BurntEnds x = Check.told("man a 60;man b 1;june a 0;june a 59;june b 0;june b 1;");
        Check.due("inch 0", x.june(0, 0), 2);
        Check.due("inch 59", x.june(0, 59), 2);
        Check.due("inch 1", x.june(0, 1), 0);
        Check.due("inch 58", x.june(0, 58), 0);
        Check.due("inch 1 of b, beyond", x.june(1, 1), 1);
        Check.due("inch 0 of b", x.june(1, 0), 2);
        Check.due("inch 59 of b", x.june(1, 59), 0);
        x.cut(0, 0, 1);
        x.cut(0, 1, 1);
        Check.due("gone at the TOP", x.june(0, 0), 1);
        Check.due("gone at the LOW end", x.june(0, 59), 1);
        x.undo();
        Check.due("LEFT again", x.june(0, 59), 2);
        for (int wrong : new int[] {-1, 60, 64, MIN, MAX}) {
            Twins.refused("inch " + wrong, Twins::busy, y -> y.june(0, wrong), -1);
            Twins.refused("PERSON " + wrong, Twins::busy, y -> y.june(wrong, 0), -1);
        }
        Check.due("PERSON 2", x.june(2, 0), -1);
    }

    private static void lenders() {
        BurntEnds x = Check.told("man a 1;man b 1;man c 1;man d 1;man e 1;man f 1;"
            + "lend f a;lend e a;lend d a;lend c a;lend b a;lend a f;");
        Check.due("of a: all but a", x.lenders(0), 62);
        Check.due("of f", x.lenders(5), 1);
        Check.due("of b: none", x.lenders(1), 0);
        for (int wrong : new int[] {-1, 6, MIN, MAX}) {
            Check.due("PERSON " + wrong, x.lenders(wrong), -1);
        }
        x.cut(1, 0, 1);
        Check.due("one OUT LENDS still", x.lenders(0), 62);
        Twins.asks("lenders", Twins::busy, y -> y.lenders(2));
    }

    /** "E of recall (put to 0 .. 9999; how many JUNES are LEFT without, with an ERROR)" */
    private static void recall() {
        String words = "man a 9;june a 0;june a 8;june a 9;";
        Check.due("without", Check.told(words).recall(0), 2);
        Check.due("with an ERROR", Check.told(words + "law recall 1/0;").recall(0), 2);
        Check.due("-1", Check.told(words + "law recall 0-1;").recall(0), 0);
        Check.due("0", Check.told(words + "law recall 0;").recall(0), 0);
        Check.due("9999", Check.told(words + "law recall 9999;").recall(0), 9999);
        Check.due("10000", Check.told(words + "law recall 9999+1;").recall(0), 9999);
        Check.due("beyond an int", Check.told(words + "law recall 9999*9999*9999;").recall(0), 9999);
        Check.due("below an int", Check.told(words + "law recall 0-9999*9999*9999;").recall(0), 0);
        for (int wrong : new int[] {-1, 1, MIN, MAX}) {
            Check.due("PERSON " + wrong, Check.told(words).recall(wrong), -1);
        }
    }

    /** "Long.MIN_VALUE: an ERROR, no such law, no such PERSON"; E is not put to anything here */
    private static void law() {
        BurntEnds x = Check.told("man a 9;man b 9;law burn 10;law glow 1000;law recall 0-1;");
        Check.due("burn", x.law(0, 0), 10);
        Check.due("glow", x.law(1, 1), 1000);
        Check.due("recall", x.law(2, 0), -1);
        for (int wrong : new int[] {-1, 3, MIN, MAX}) {
            Check.due("law " + wrong, x.law(wrong, 0), Long.MIN_VALUE);
            Check.due("PERSON " + wrong, x.law(0, wrong), Long.MIN_VALUE);
        }
        Check.due("PERSON 2", x.law(2, 2), Long.MIN_VALUE);
        BurntEnds one = Check.told("man a 9;law glow 5;");
        Check.due("burn isn't told", one.law(0, 0), Long.MIN_VALUE);
        Check.due("recall isn't told", one.law(2, 0), Long.MIN_VALUE);
        Check.due("glow is", one.law(1, 0), 5);
        // as for the TOP: ahead of what it burns
        BurntEnds lit = Check.told("man a 9;law burn top+lit;");
        lit.light(0, 1);
        lit.cut(0, 0, 3);
        Check.due("as for the TOP", lit.law(0, 0), 4);
    }

    // ---- promises 11 to 14

    private static void light() {
        BurntEnds x = Check.told("man a 1;man b 1;");
        Check.due("the TOP", x.light(0, 0), true);
        Check.due("the LOW end", x.light(0, 1), true);
        Check.due("LIT now", Check.man(x, 0, 4) * 10 + Check.man(x, 1, 4), 30);
        x.cut(1, 0, 1);
        refusedLight("OUT", NowEdgesTest::outAndLit, 1, 0);
        refusedLight("OUT, the LOW end", NowEdgesTest::outAndLit, 1, 1);
        refusedLight("LIT", NowEdgesTest::outAndLit, 0, 0);
        for (int wrong : new int[] {-1, 2, 3, 32, MIN, MAX}) {
            refusedLight("end " + wrong, Twins::busy, 2, wrong);
            refusedLight("PERSON " + wrong, NowEdgesTest::outAndLit, wrong, 0);
        }
        refusedLight("nobody", BurntEnds::new, 0, 0);
    }

    private static BurntEnds outAndLit() {
        BurntEnds x = Check.told("man a 3;man b 3;");
        x.light(0, 0);
        x.cut(1, 0, 3);
        return x;
    }

    private static void refusedLight(String what, java.util.function.Supplier<BurntEnds> maker, int man, int end) {
        Twins.refused("light: " + what, maker, x -> x.light(man, end) ? 1 : 0, 0);
    }

    private static void blow() {
        BurntEnds x = outAndLit();
        Check.due("the TOP", x.blow(0, 0), true);
        Check.due("not twice", x.blow(0, 0), false);
        Check.due("LIT again", x.light(0, 0), true);
        refusedBlow("the LOW end isn't LIT", NowEdgesTest::outAndLit, 0, 1);
        refusedBlow("OUT", NowEdgesTest::outAndLit, 1, 0);
        for (int wrong : new int[] {-1, 2, 3, 32, MIN, MAX}) {
            refusedBlow("end " + wrong, NowEdgesTest::outAndLit, 0, wrong);
            refusedBlow("PERSON " + wrong, NowEdgesTest::outAndLit, wrong, 0);
        }
        refusedBlow("nobody", BurntEnds::new, 0, 0);
        // what HOURS have LIT can be blown out by call
        BurntEnds y = Check.told("man a 9;light a 1 0;");
        y.go(1);
        Check.due("LIT by an HOUR", y.blow(0, 1), true);
        y.go(1);
        Check.due("it stays", Check.man(y, 0, 1), 8);
    }

    private static void refusedBlow(String what, java.util.function.Supplier<BurntEnds> maker, int man, int end) {
        Twins.refused("blow: " + what, maker, x -> x.blow(man, end) ? 1 : 0, 0);
    }

    /** "So many inches 1 .. 60 are cut from an end (LIT or not, it stays so, if it isn't OUT then)" */
    private static void cut() {
        BurntEnds x = Check.told("man a 60;man b 60;man c 5;");
        Check.due("1", x.cut(0, 0, 1), 59);
        Check.due("59", x.cut(0, 1, 59), 0);
        Check.due("60", x.cut(1, 1, 60), 0);
        x.light(2, 1);
        Check.due("all but one", x.cut(2, 1, 4), 1);
        Check.due("LIT, it stays so", Check.man(x, 2, 4), 2);
        Check.due("all", x.cut(2, 1, 1), 0);
        Check.due("OUT then", Check.man(x, 2, 4), 0);
        for (int inches : new int[] {0, -1, 61, 64, MIN, MAX}) {
            Twins.refused("cut " + inches, Twins::busy, y -> y.cut(0, 0, inches), -1);
        }
        for (int wrong : new int[] {-1, 3, MIN, MAX}) {
            Twins.refused("PERSON " + wrong, Twins::busy, y -> y.cut(wrong, 0, 1), -1);
        }
        for (int wrong : new int[] {-1, 2, MIN, MAX}) {
            Twins.refused("end " + wrong, Twins::busy, y -> y.cut(0, wrong, 1), -1);
        }
        Twins.refused("one more than LEFT", Twins::busy, y -> y.cut(0, 0, Check.man(y, 0, 1) + 1), -2);
        Twins.refused("60 of fewer", Twins::busy, y -> y.cut(0, 1, 60), -2);
        Twins.refused("of one OUT", NowEdgesTest::outAndLit, y -> y.cut(1, 0, 1), -2);
        Twins.refused("NONE goes first", NowEdgesTest::outAndLit, y -> y.cut(1, 0, 61), -1);
        Twins.refused("nobody", BurntEnds::new, y -> y.cut(0, 0, 1), -1);
    }

    /** "So many HOURS (0 .. 200) go by: which one it is; NONE, and none does: no such number" */
    private static void go() {
        BurntEnds x = Twins.busy();
        Check.due("0", x.go(0), 4);
        Check.due("1", x.go(1), 5);
        Check.due("200", x.go(200), 205);
        for (int wrong : new int[] {-1, 201, MIN, MAX}) {
            Twins.refused("go(" + wrong + ")", Twins::busy, y -> y.go(wrong), -1);
        }
        Twins.refused("go(0)", Twins::busy, y -> y.go(0), 4);
        Check.due("without PEOPLE", new BurntEnds().go(200), 200);
    }

    private static BurntEnds late(int ahead) {
        BurntEnds x = Check.told("man a 60;light a 0 0;law burn 0;");
        for (int k = 0; k < 48; k++) {
            x.go(200);
        }
        x.go(200 - ahead);
        x.light(0, 1);
        return x;
    }

    /** "NONE, and none does: .. behind 9800" */
    private static void goBehindTheLastHour() {
        Check.due("up to it", late(2).go(2), 9800);
        Check.due("at once", late(200).go(200), 9800);
        Check.due("at it", late(0).go(0), 9800);
        Twins.refused("3 of 2", () -> late(2), x -> x.go(3), -1);
        Twins.refused("1 of 0", () -> late(0), x -> x.go(1), -1);
        Twins.refused("200 of 199", () -> late(199), x -> x.go(200), -1);
        Check.due("what comes is looked at all the same", late(0).ahead(200, 0, 0), 60);
    }

    // ---- promises 35 to 38

    /** "The latest is undone: how many are left; NONE: none." */
    private static void undo() {
        Twins.refused("none at first", BurntEnds::new, x -> x.undo(), -1);
        Twins.refused("none behind a TEXT", () -> Check.told("man a 9;light a 0 0;"), x -> x.undo(), -1);
        BurntEnds x = Check.told("man a 9;man b 5;");
        x.light(0, 0);
        x.light(1, 1);
        x.cut(0, 1, 9);
        x.blow(1, 1);
        Check.due("four", x.count(14), 4);
        Check.due("the blowing", x.undo(), 3);
        Check.due("b is LIT", Check.man(x, 1, 4), 2);
        Check.due("the cutting", x.undo(), 2);
        Check.due("a is LEFT, and LIT", Check.man(x, 0, 1) * 10 + Check.man(x, 0, 4), 91);
        Check.due("the lighting of b", x.undo(), 1);
        Check.due("b isn't LIT", Check.man(x, 1, 4), 0);
        Check.due("the lighting of a", x.undo(), 0);
        Check.due("nothing LIT", x.count(8), 0);
        Check.due("none", x.undo(), -1);
        Check.due("it can be done again", x.light(0, 0), true);
        Check.due("and undone", x.undo(), 0);
    }

    /** "(20 at most)" */
    private static void undoTwentyAtMost() {
        for (int acts = 19; acts <= 22; acts++) {
            BurntEnds x = Check.told("man a 60;");
            for (int k = 0; k < acts; k++) {
                x.cut(0, k % 2, 1);
            }
            Check.due("of " + acts, x.count(14), Math.min(acts, 20));
            for (int k = Math.min(acts, 20) - 1; k >= 0; k--) {
                Check.due("undo", x.undo(), k);
            }
            Check.due("no more", x.undo(), -1);
            Check.due("those ahead of 20 stay", Check.man(x, 0, 1), 60 - Math.max(0, acts - 20));
        }
    }

    /** Of more than 20, of several PEOPLE and of all kinds: each stays as it was ahead of it. */
    private static void undoTwentyOfAllKinds() {
        for (int acts = 18; acts <= 26; acts++) {
            BurntEnds x = Check.told("man a 60;man b 50;man c 40;");
            String[] ahead = new String[acts];
            for (int k = 0; k < acts; k++) {
                ahead[k] = nowOf(x);
                int man = k * 2 % 3;
                int end = k / 3 % 2;
                boolean done = k % 4 == 3 ? x.cut(man, end, k) >= 0 : x.light(man, end) || x.blow(man, end);
                Check.due("done " + k, done, true);
            }
            for (int k = acts - 1; k >= Math.max(0, acts - 20); k--) {
                Check.due("undo " + k + " of " + acts, x.undo(), k - Math.max(0, acts - 20));
                Check.due("as ahead of " + k, nowOf(x).equals(ahead[k]), true);
            }
            Check.due("no more", x.undo(), -1);
            Check.due("as it is", nowOf(x).equals(ahead[Math.max(0, acts - 20)]), true);
        }
    }

    /** "if no HOUR went by since" */
    private static void undoneByHours() {
        BurntEnds x = Check.told("man a 9;");
        x.light(0, 0);
        Check.due("no HOUR by go(0)", x.go(0) + x.count(14), 1);
        Check.due("none by looking ahead", x.ahead(5, 0, 0) + x.count(14), 5);
        Check.due("none by keep", x.keep() + x.count(14), 1);
        Check.due("none by a FAULT", Check.text(x, "!") + x.count(14), 0);
        x.go(1);
        Check.due("an HOUR", x.undo(), -1);
        x.blow(0, 0);
        Check.due("since", x.undo(), 0);
        Check.due("LIT again", Check.man(x, 0, 4), 1);
        Check.due("none ahead of it", x.undo(), -1);
    }

    /** "An IMAGE is kept (in place of one ahead)"; "NONE: there is none", "(nothing to undo then)" */
    private static void keepAndBack() {
        Twins.refused("back without", NowEdgesTest::outAndLit, x -> x.back(), -1);
        Twins.refused("back without", BurntEnds::new, x -> x.back(), -1);
        BurntEnds x = new BurntEnds();
        Check.due("keep of a new object", x.keep(), 0);
        x.go(3);
        Check.due("back to it", x.back(), 0);
        x.go(5);
        Check.due("keep", x.keep(), 5);
        x.go(5);
        Check.due("the one in place of it", x.back(), 5);
        Check.due("as often as one likes", x.go(2) * 10 + x.back(), 75);
        BurntEnds y = outAndLit();
        y.keep();
        y.light(0, 1);
        Check.due("what can be undone", y.count(14), 3);
        y.back();
        Check.due("nothing to undo", y.undo(), -1);
        Check.due("what was done ahead of it stays", Check.man(y, 0, 4), 1);
        Check.text(y, "man a 5;");
        Check.due("no IMAGE behind a TEXT", y.back(), -1);
    }

    /** "An IMAGE keeps all but FACTS, by how many it is KNOWN, the TAPE and the FAULT." */
    private static void imageKeepsAllBut() {
        BurntEnds x = Check.told("man a 60;man b 60;light a 0 0;light a 0 1;lend a b;draft 50;seed 3;law burn windy;");
        x.go(2);
        x.light(1, 0);
        x.cut(0, 1, 3);
        x.keep();
        String kept = nowOf(x);
        int next = stepped(x);
        x.light(0, 1);
        x.blow(1, 0);
        x.see(1, 0, 0, true);
        x.see(1, 0, 1, true);
        x.known(1);
        Check.text(x, "man a 0;");
        Check.feed(x, "man a 1;");
        Check.due("back", x.back(), 2);
        Check.due("as it was", nowOf(x).equals(kept), true);
        Check.due("FACTS stay", x.count(12), 2);
        Check.due("KNOWN by 1 stays", x.count(13), 1);
        Check.due("the FAULT stays", x.fault(0) * 10 + x.fault(1), 26);
        Check.due("the TAPE stays", x.feed(0, 0, 0, 0, 0), 40);
        Check.due("the numbers come again", stepped(x), next);
    }

    private static String nowOf(BurntEnds x) {
        StringBuilder all = new StringBuilder();
        for (int what = 0; what <= 11; what++) {
            all.append(x.count(what)).append(' ');
        }
        for (int man = 0; man < x.count(0); man++) {
            for (int what = 0; what <= 7; what++) {
                all.append(Check.man(x, man, what)).append(' ');
            }
        }
        return all.toString();
    }

    /** Which of ten HOURS are WINDY, as bits. */
    private static int stepped(BurntEnds x) {
        int bits = 0;
        for (int k = 0; k < 10; k++) {
            int left = Check.man(x, 0, 1);
            x.go(1);
            bits = bits * 2 + left - Check.man(x, 0, 1);
        }
        return bits;
    }

    private static void count() {
        BurntEnds x = new BurntEnds();
        for (int what = 0; what <= 14; what++) {
            Check.due("count(" + what + ")", x.count(what), 0);
        }
        for (int wrong : new int[] {-1, 15, MIN, MAX}) {
            Check.due("count(" + wrong + ")", x.count(wrong), -1);
        }
        BurntEnds full = Check.told("man a 60;man b 60;man c 60;man d 60;man e 60;man f 60;light a 0 0;light a 1 0;");
        Check.due("PEOPLE", full.count(0), 6);
        Check.due("inches LEFT of all", full.count(6), 360);
        full.cut(5, 0, 60);
        full.cut(4, 1, 59);
        Check.due("inches LEFT", full.count(6), 241);
        Check.due("OUT", full.count(7), 1);
        full.light(4, 0);
        full.light(4, 1);
        full.go(1);
        Check.due("OUT", full.count(7), 2);
        Check.due("ends LIT", full.count(8), 2);
        Check.due("HOURS SEEN", full.count(11), 2);
        Check.due("GLOW", full.count(9), 4);
        Check.due("KNOWN by all", full.see(1, 0, 0, true) + full.see(1, 0, 0, true) * 10 + full.count(13), 12);
        full.known(0);
        Check.due("KNOWN by none", full.count(13), 0);
        full.known(2);
        full.see(1, 0, 0, true);
        Check.due("KNOWN by two", full.count(13) * 10 + full.count(12), 23);
    }
}
