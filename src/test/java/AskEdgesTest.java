/**
 * The edges that part 3 of the document names, and promises 15 to 34: of each sentence the last input that is
 * taken and the first that isn't.
 */
public final class AskEdgesTest {
    private static final int MIN = Integer.MIN_VALUE;
    private static final int MAX = Integer.MAX_VALUE;
    private static final int[] BEYOND = {-1, 3, 6, 31, 32, MIN, MAX};
    private static final int ALL = (1 << 30) - 1;

    public static void main(String[] args) {
        ahead();
        aheadOfWhom();
        aheadGoesOnFromNow();
        endsAtMost();
        endsNow();
        alikeAtMost();
        alikeNow();
        keepInch();
        timesUpToSixty();
        endsMeetInOneInch();
        lightOnlyAtAnEnd();
        timesOfOneOut();
        lightings();
        cover();
        coverOfSeveral();
        last();
        lastOfSeveral();
        match();
        matchOfSeveral();
        gameTwoOnlyIfThereAreTwo();
        gameFirstOfSeveral();
        game();
        spendIsCut();
        rests();
        calm();
        see();
        strike();
        struckFromTheLastOneOn();
        known();
        lengthsOneToThirty();
        lengthsOfFacts();
        lengthsOf();
        ask();
        askBehindTwentyHours();
        chance();
        chanceAtLeast();
        chanceOneBehindAnother();
        tried();
        triedOtherwise();
        questionsChangeNothing();
        Check.finish();
    }

    // ---- promises 15 to 17

    /** "AHEAD (n 0 .. 200), what 0 .. 4 .. NONE: no such ones." */
    private static void ahead() {
        BurntEnds x = Check.told("man a 60;man b 1;light a 0 0;light b 0 0;law burn hour<>199 and lit;law recall hour;");
        Check.due("0 HOURS", x.ahead(0, 0, 0), 60);
        Check.due("1 HOUR", x.ahead(1, 0, 0), 59);
        Check.due("HOUR 0 by RECALL", x.ahead(0, 1, 0), 0);
        Check.due("HOUR 200 by RECALL", x.ahead(200, 1, 0), 200);
        Check.due("none OUT in 0", x.ahead(0, 2, 0), 0);
        Check.due("two OUT in 200", x.ahead(200, 2, 0), 2);
        Check.due("no GLOW in 0", x.ahead(0, 3, 0), 0);
        Check.due("GLOW in 200", x.ahead(200, 3, 0), 61);
        Check.due("no HOUR SEEN in 0", x.ahead(0, 4, 0), 0);
        Check.due("HOURS SEEN in 200", x.ahead(200, 4, 0), 60);
        for (int wrong : new int[] {-1, 201, MIN, MAX}) {
            Twins.refused("n " + wrong, Twins::busy, y -> y.ahead(wrong, 0, 0), -1);
            Twins.refused("n " + wrong, Twins::busy, y -> y.ahead(wrong, 2, 0), -1);
        }
        for (int wrong : new int[] {-1, 5, MIN, MAX}) {
            Twins.refused("what " + wrong, Twins::busy, y -> y.ahead(1, wrong, 0), -1);
        }
    }

    /** "(of 2, 3 the PERSON isn't looked at)" */
    private static void aheadOfWhom() {
        for (int wrong : BEYOND) {
            for (int what : new int[] {0, 1, 4}) {
                Twins.refused("PERSON " + wrong, Twins::busy, y -> y.ahead(1, what, wrong), -1);
            }
            Check.due("OUT, PERSON " + wrong, Check.told("man a 1;light a 0 0;").ahead(1, 2, wrong), 1);
            Check.due("GLOW, PERSON " + wrong, Check.told("man a 1;light a 0 0;").ahead(1, 3, wrong), 1);
        }
        BurntEnds nobody = new BurntEnds();
        Check.due("nobody LEFT", nobody.ahead(5, 0, 0), -1);
        Check.due("nobody OUT", nobody.ahead(5, 2, 0), 0);
        Check.due("no GLOW", nobody.ahead(5, 3, 0), 0);
    }

    /** What was done by call, and the HOURS gone by, count; GLOW and SEEN are those "more". */
    private static void aheadGoesOnFromNow() {
        BurntEnds x = Check.told("man a 9;man b 9;light a 0 0;light b 0 3;lend a b;");
        x.go(2);
        x.light(0, 1);
        Check.due("GLOW more", x.ahead(2, 3, 0), 2 + 3);
        Check.due("SEEN more", x.ahead(4, 4, 1), 4);
        Check.due("LEFT", x.ahead(2, 0, 0), 3);
        Check.due("a LIGHT of a later HOUR", x.ahead(2, 0, 1), 8);
    }

    /** "ENDS of one: in how many HOURS as it goes, 199 at most, it is OUT"; "-2: not by then" */
    private static void endsAtMost() {
        String words = "man a 1;light a 0 0;law burn hour=";
        Check.due("in 1", Check.told(words + "0;").ends(0), 1);
        Check.due("in 198", Check.told(words + "197;").ends(0), 198);
        Check.due("in 199", Check.told(words + "198;").ends(0), 199);
        Check.due("not by then", Check.told(words + "199;").ends(0), -2);
        BurntEnds x = Check.told(words + "199;");
        x.go(1);
        Check.due("199 from now on", x.ends(0), 199);
    }

    /** "(0: it is)"; "NONE: no such PERSON" */
    private static void endsNow() {
        BurntEnds x = Check.told("man a 1;man b 1;");
        Check.due("never LIT", x.ends(0), -2);
        x.cut(0, 0, 1);
        Check.due("it is", x.ends(0), 0);
        x.light(1, 0);
        Check.due("by call", x.ends(1), 1);
        for (int wrong : BEYOND) {
            Twins.refused("PERSON " + wrong, Twins::busy, y -> y.ends(wrong), -1);
        }
        Check.due("nobody", new BurntEnds().ends(0), -1);
    }

    /** "ALIKE of two: in how many HOURS as it goes, 199 at most"; "-2: not by then" */
    private static void alikeAtMost() {
        String words = "man a 2;man b 1;light a 0 0;law burn hour=";
        Check.due("in 1", Check.told(words + "0;").alike(0, 1), 1);
        Check.due("in 199", Check.told(words + "198;").alike(0, 1), 199);
        Check.due("in 199", Check.told(words + "198;").alike(1, 0), 199);
        Check.due("not by then", Check.told(words + "199;").alike(0, 1), -2);
        for (int draft = 49; draft <= 50; draft++) {
            BurntEnds x = Check.told("man a 60;man b 40;light a 0 0;seed 5;draft " + draft + ";");
            Check.due("WINDY as it goes at " + draft, x.alike(0, 1), draft == 49 ? 20 : 10);
        }
    }

    /** "none of both, too (0: now)"; "NONE: no such PEOPLE, alike" */
    private static void alikeNow() {
        BurntEnds x = Check.told("man a 5;man b 5;man c 4;");
        Check.due("now", x.alike(0, 1), 0);
        Check.due("never", x.alike(0, 2), -2);
        x.cut(0, 0, 5);
        x.cut(2, 0, 4);
        Check.due("none of both, now", x.alike(0, 2), 0);
        BurntEnds y = Check.told("man a 4;man b 3;light a 0 0;light a 1 0;light b 0 0;light b 1 0;");
        Check.due("none of both, then", y.alike(0, 1), 2);
        BurntEnds past = Check.told("man a 6;man b 3;light a 0 0;light a 1 0;");
        Check.due("never just as many", past.alike(0, 1), -2);
        Check.due("the same one", x.alike(1, 1), -1);
        for (int wrong : BEYOND) {
            Twins.refused("PERSON " + wrong, Twins::busy, z -> z.alike(wrong, 0), -1);
            Twins.refused("PERSON " + wrong, Twins::busy, z -> z.alike(0, wrong), -1);
            Twins.refused("twice " + wrong, Twins::busy, z -> z.alike(wrong, wrong), -1);
        }
    }

    // ---- promises 18 to 20

    /** "KEEP (0: it is alone); -2: it isn't LEFT; NONE: no such PERSON, an inch not 0 .. 59" */
    private static void keepInch() {
        BurntEnds x = Check.told("man a 60;man b 1;man c 9;");
        Check.due("alone", x.keepInch(1, 0), 0);
        Check.due("beyond", x.keepInch(1, 1), -2);
        Check.due("beyond, inch 59", x.keepInch(1, 59), -2);
        Check.due("inch 0", x.keepInch(0, 0), 59);
        Check.due("inch 59", x.keepInch(0, 59), 59);
        Check.due("both at once", x.keepInch(0, 29), 30);
        Check.due("both at once", x.keepInch(0, 30), 30);
        x.cut(2, 0, 3);
        x.cut(2, 1, 2);
        Check.due("gone at the TOP", x.keepInch(2, 2), -2);
        Check.due("the first LEFT", x.keepInch(2, 3), 3);
        Check.due("the last LEFT", x.keepInch(2, 6), 3);
        Check.due("gone at the LOW end", x.keepInch(2, 7), -2);
        x.cut(1, 0, 1);
        Check.due("OUT", x.keepInch(1, 0), -2);
        for (int wrong : new int[] {-1, 60, 64, MIN, MAX}) {
            Twins.refused("inch " + wrong, Twins::busy, y -> y.keepInch(0, wrong), -1);
        }
        for (int wrong : BEYOND) {
            Twins.refused("PERSON " + wrong, Twins::busy, y -> y.keepInch(wrong, 0), -1);
        }
    }

    private static BurntEnds two(int one, int other) {
        return Check.told("man a " + one + ";man b " + other + ";");
    }

    /** "in how many HOURS 1 .. 60 a candle can be OUT" */
    private static void timesUpToSixty() {
        Check.due("1 and 1", two(1, 1).times(0, 1), 1L << 1 | 1L << 2);
        Check.due("60 and 60", two(60, 60).times(0, 1), 1L << 30 | 1L << 45 | 1L << 60);
        // one behind the other one: 60 is the last that counts
        Check.due("40, then 20", two(40, 20).times(0, 1) >> 59, 2);
        Check.due("40, then 21", two(40, 21).times(0, 1) >> 59, 0);
        Check.due("40, then 21: 61 can't be told", two(40, 21).lightings(0, 1, 60), -2);
        Check.due("60, nothing behind", two(60, 1).times(0, 1), 1L << 1 | 1L << 30 | 1L << 31 | 1L << 60);
    }

    /** "the HOUR in which its ends meet in one inch is the last one" */
    private static void endsMeetInOneInch() {
        for (int inches = 1; inches <= 60; inches++) {
            BurntEnds x = two(inches, 1);
            x.cut(1, 0, 1);
            long want = 1L << inches | 1L << (inches + 1) / 2;
            Check.due("of " + inches, x.times(0, 1), want);
            Check.due("by one end", x.lightings(0, 1, inches), 1);
            Check.due("by both", x.lightings(0, 1, (inches + 1) / 2), inches == 1 ? 1 : 2);
        }
    }

    /** "ends LIT only at the beginning or in an HOUR in which a candle was OUT just ahead of it", "both .. at once" */
    private static void lightOnlyAtAnEnd() {
        // 8 and 3: first 3 or 2 by b, 8 or 4 by a; then the other one
        long want = 0;
        for (int time : new int[] {2, 3, 4, 5, 6, 7, 8, 10, 11}) {
            want |= 1L << time;
        }
        Check.due("8 and 3", two(8, 3).times(0, 1), want);
        Check.due("9 can't be had", two(8, 3).lightings(0, 1, 9), -2);
        Check.due("both at once", two(4, 4).lightings(0, 1, 4), 1);
        BurntEnds x = two(8, 3);
        x.light(0, 0);
        x.light(1, 1);
        Check.due("no end LIT at first", x.times(0, 1), want);
        Check.due("needed ones alone", x.lightings(0, 1, 3), 1);
    }

    /** "one that is OUT already never is again, it can't be LIT" */
    private static void timesOfOneOut() {
        BurntEnds x = two(7, 5);
        x.cut(0, 0, 7);
        Check.due("b alone", x.times(0, 1), 1L << 5 | 1L << 3);
        Check.due("the other way", x.times(1, 0), 1L << 5 | 1L << 3);
        x.cut(1, 0, 5);
        Check.due("none", x.times(0, 1), 0);
        for (int time = 1; time <= 60; time++) {
            Check.due("none", x.lightings(0, 1, time), -2);
        }
    }

    /** "LIGHTINGS of a time 1 .. 60; -2: it can't be had; NONE: no such ones, PEOPLE alike" */
    private static void lightings() {
        BurntEnds x = two(60, 60);
        Check.due("1", two(1, 9).lightings(0, 1, 1), 1);
        Check.due("60", x.lightings(0, 1, 60), 1);
        Check.due("30", x.lightings(0, 1, 30), 2);
        Check.due("45", x.lightings(0, 1, 45), 4);
        Check.due("of two ways the fewer", two(4, 2).lightings(0, 1, 4), 1);
        for (int wrong : new int[] {-1, 0, 61, 64, MIN, MAX}) {
            Twins.refused("time " + wrong, Twins::busy, y -> y.lightings(0, 1, wrong), -1);
        }
        for (int wrong : BEYOND) {
            Twins.refused("PERSON " + wrong, Twins::busy, y -> y.lightings(wrong, 0, 5), -1);
            Twins.refused("PERSON " + wrong, Twins::busy, y -> y.lightings(0, wrong, 5), -1);
            Twins.refused("PERSON " + wrong, Twins::busy, y -> y.times(wrong, 0), -1);
            Twins.refused("PERSON " + wrong, Twins::busy, y -> y.times(0, wrong), -1);
            Twins.refused("twice " + wrong, Twins::busy, y -> y.times(wrong, wrong), -1);
        }
        Check.due("alike", x.times(1, 1), -1);
        Check.due("alike", x.lightings(1, 1, 30), -1);
        Check.due("NONE goes first", x.lightings(1, 1, 59), -1);
    }

    // ---- promises 21 to 23

    /** "COVER (0: there are no PEOPLE); -2: by none"; "the fewest PEOPLE not OUT", "all PEOPLE (those OUT, too)" */
    private static void cover() {
        Check.due("no PEOPLE", new BurntEnds().cover(), 0);
        Check.due("one", Check.told("man a 1;").cover(), 1);
        Check.due("six", Check.told("man a 1;man b 1;man c 1;man d 1;man e 1;man f 1;").cover(), 63);
        BurntEnds x = Check.told("man a 1;man b 1;man c 1;lend a b;lend a c;lend b a;");
        Check.due("a", x.cover(), 1);
        x.cut(1, 0, 1);
        Check.due("one OUT SEES by a", x.cover(), 1);
        x.undo();
        x.cut(0, 0, 1);
        Check.due("not by one OUT: b, and c", x.cover(), 6);
        x.cut(1, 0, 1);
        Check.due("by none", x.cover(), -2);
        BurntEnds out = Check.told("man a 1;");
        out.cut(0, 0, 1);
        Check.due("by none", out.cover(), -2);
    }

    /** "(bits, of several the least)", "and no other one" */
    private static void coverOfSeveral() {
        BurntEnds x = Check.told("man a 1;man b 1;man c 1;man d 1;lend a b;lend b a;lend c d;lend d c;");
        Check.due("of four pairs the least", x.cover(), 5);
        x.light(1, 0);
        x.light(3, 0);
        Check.due("whoever is LIT", x.cover(), 5);
        x.cut(2, 0, 1);
        Check.due("d for c", x.cover(), 9);
        BurntEnds fewer = Check.told("man a 1;man b 1;man c 1;lend c a;lend c b;");
        Check.due("one of the higher number ahead of two", fewer.cover(), 4);
    }

    /** "LAST (n 0 .. 360; bits); -2: by none; NONE: no such n", "(nobody for 0; those OUT last 0)" */
    private static void last() {
        BurntEnds x = Check.told("man a 60;man b 60;man c 60;man d 60;man e 60;man f 60;");
        Check.due("0", x.last(0), 0);
        Check.due("1", x.last(1), 1);
        Check.due("60", x.last(60), 1);
        Check.due("61", x.last(61), 3);
        Check.due("300", x.last(300), 31);
        Check.due("301", x.last(301), 63);
        Check.due("360", x.last(360), 63);
        x.cut(0, 0, 1);
        Check.due("359 of 359", x.last(359), 63);
        Check.due("360 of 359", x.last(360), -2);
        for (int wrong : new int[] {-1, 361, MIN, MAX}) {
            Twins.refused("n " + wrong, Twins::busy, y -> y.last(wrong), -1);
        }
        Check.due("nobody for 0", new BurntEnds().last(0), 0);
        Check.due("by none", new BurntEnds().last(1), -2);
        Check.due("by none", new BurntEnds().last(360), -2);
    }

    private static void lastOfSeveral() {
        BurntEnds x = Check.told("man a 3;man b 5;man c 4;man d 5;");
        Check.due("5: the least of two", x.last(5), 2);
        Check.due("6: a and b", x.last(6), 3);
        Check.due("9: b and c", x.last(9), 6);
        Check.due("10: b and d", x.last(10), 10);
        Check.due("11: the least of three", x.last(11), 7);
        Check.due("13: a, b and d", x.last(13), 11);
        x.cut(1, 0, 5);
        Check.due("those OUT last 0", x.last(5), 8);
        Check.due("none", x.last(13), -2);
    }

    /** "what 0 .. 5: the lender of that PERSON (-2: none, he SEES, there are not so many), 6: how many have one" */
    private static void match() {
        BurntEnds x = Check.told("man a 5;man b 5;man c 5;lend a b;lend b c;lend c a;");
        Check.due("b by a", x.match(1), 0);
        Check.due("c by b", x.match(2), 1);
        Check.due("a by c", x.match(0), 2);
        Check.due("there are not so many", x.match(3), -2);
        Check.due("there are not so many", x.match(5), -2);
        Check.due("three", x.match(6), 3);
        x.cut(0, 0, 5);
        Check.due("one OUT is no lender", x.match(1), -2);
        Check.due("but may have one", x.match(0), 2);
        x.light(1, 0);
        Check.due("c SEES", x.match(2), -2);
        Check.due("b SEES", x.match(1), -2);
        Check.due("one", x.match(6), 1);
        for (int wrong : new int[] {-1, 7, 60, MIN, MAX}) {
            Twins.refused("what " + wrong, Twins::busy, y -> y.match(wrong), -1);
        }
        BurntEnds nobody = new BurntEnds();
        Check.due("nobody", nobody.match(0), -2);
        Check.due("nobody", nobody.match(5), -2);
        Check.due("none", nobody.match(6), 0);
        BurntEnds full = Check.told("man a 1;man b 1;man c 1;man d 1;man e 1;man f 1;"
            + "lend a b;lend b c;lend c d;lend d e;lend e f;lend f a;");
        Check.due("six", full.match(6), 6);
        Check.due("the sixth", full.match(5), 4);
    }

    /** "none for two, so that as many as may be have one, of several the first by PEOPLE (.. none is last)" */
    private static void matchOfSeveral() {
        BurntEnds x = Check.told("man a 5;man b 5;man c 5;man d 5;lend c a;lend d a;lend c b;");
        Check.due("d, so that b has c", x.match(0), 3);
        Check.due("c", x.match(1), 2);
        Check.due("two", x.match(6), 2);
        BurntEnds y = Check.told("man a 5;man b 5;man c 5;lend c a;lend c b;");
        Check.due("the first has one", y.match(0), 2);
        Check.due("none for two", y.match(1), -2);
        BurntEnds z = Check.told("man a 5;man b 5;man c 5;man d 5;lend c a;lend d a;lend c b;lend d b;");
        Check.due("by numbers", z.match(0) * 10 + z.match(1), 23);
    }

    // ---- promises 24 to 27

    private static BurntEnds game(int inches, String junes) {
        StringBuilder words = new StringBuilder("man a " + inches + ";");
        for (int inch = 0; inch < junes.length(); inch++) {
            if (junes.charAt(inch) == 'J') {
                words.append("june a ").append(inch).append(';');
            }
        }
        return Check.told(words.toString());
    }

    private static void plays(String junes, int more, int first) {
        BurntEnds x = game(junes.length(), junes);
        Check.due("game 0 of " + junes, x.game(0, 0), more);
        Check.due("game 1 of " + junes, x.game(0, 1), first);
    }

    /** "1 or 2 inches (2 only, if there are two)" */
    private static void gameTwoOnlyIfThereAreTwo() {
        plays("J", 1, 1);
        plays(".", 0, 1);
        plays("JJ", 2, 2);
        plays("JJJ", 1, 2);
        plays("JJJJ", 0, 1);
        BurntEnds x = game(1, "JJ");
        Check.due("a JUNE beyond", x.game(0, 0), 1);
        Check.due("is not taken", x.game(0, 1), 1);
        BurntEnds y = game(5, "JJ.JJ");
        y.cut(0, 0, 1);
        y.cut(0, 1, 2);
        Check.due("what is LEFT alone", y.game(0, 0), 1);
        Check.due("1 of J.", y.game(0, 1), 1);
    }

    /** "the first of several (the TOP ahead, 1 ahead of 2 ..)" */
    private static void gameFirstOfSeveral() {
        plays("....", 0, 1);
        plays("J..", 1, 1);
        plays("..J", 1, 11);
        plays("..JJ", 2, 12);
        plays("JJ..", 2, 2);
        plays("..", 0, 1);
        plays(".J", 1, 2);
    }

    /** "(.. 0: it is OUT). Integer.MIN_VALUE: no such ones." */
    private static void game() {
        BurntEnds x = game(5, "JJJ");
        Check.due("ahead of it", x.game(0, 0) * 100 + x.game(0, 1), 102);
        x.cut(0, 0, 5);
        Check.due("OUT", x.game(0, 0), 0);
        Check.due("OUT: he takes nothing", x.game(0, 1), 0);
        BurntEnds second = Check.told("man a 5;man b 6;june b 1;june b 2;june b 4;june a 0;");
        second.cut(0, 0, 5);
        second.cut(1, 0, 2);
        second.cut(1, 1, 1);
        Check.due("what is LEFT of b: J.J", second.game(1, 0) * 100 + second.game(1, 1), 1);
        second.cut(1, 0, 1);
        Check.due("what is LEFT of b: .J", second.game(1, 0) * 100 + second.game(1, 1), 102);
        for (int wrong : new int[] {-1, 2, MIN, MAX}) {
            Twins.refused("what " + wrong, Twins::busy, y -> y.game(0, wrong), MIN);
        }
        for (int wrong : BEYOND) {
            Twins.refused("PERSON " + wrong, Twins::busy, y -> y.game(wrong, 0), MIN);
            Twins.refused("PERSON " + wrong, Twins::busy, y -> y.game(wrong, 1), MIN);
        }
        BurntEnds full = game(60, "JJJJJJJJJJJJ................................................");
        Check.due("60 inches", full.game(0, 1) > 0, true);
        BurntEnds none = game(60, "");
        Check.due("60 inches without", none.game(0, 0) * 100 + none.game(0, 1), 1);
    }

    private static BurntEnds spend(int junes, int others) {
        StringBuilder words = new StringBuilder("man a 60;man b 60;");
        for (int k = 0; k < junes; k++) {
            words.append("june a ").append(k).append(';');
        }
        for (int k = 0; k < others; k++) {
            words.append("june b ").append(k).append(';');
        }
        return Check.told(words.toString());
    }

    private static void restsAre(String what, BurntEnds x, int... want) {
        Check.due("rests of " + what, x.rests(0, 1), want.length);
        for (int k = 0; k < want.length; k++) {
            Check.due("rest " + k + " of " + what, x.rest(0, 1, k), want[k]);
        }
        Check.due("no more rests of " + what, x.rest(0, 1, want.length), -2);
    }

    /** "each has the JUNES LEFT by 2, cut"; "2 more"; "as many as the JUNES of both"; "neither would have more" */
    private static void spendIsCut() {
        // both: mine/2; alone: mine + 2, the other one mine + others; none: mine
        restsAre("0 and 0", spend(0, 0), 0, 1, 10);
        restsAre("1 and 0", spend(1, 0), 1, 10);
        restsAre("1 and 1", spend(1, 1), 1, 10);
        restsAre("0 and 1", spend(0, 1), 1, 10);
        restsAre("12 and 0", spend(12, 0), 1, 10);
        restsAre("0 and 12", spend(0, 12), 1, 10);
        BurntEnds x = spend(1, 0);
        x.cut(0, 0, 1);
        restsAre("JUNES that are gone", x, 0, 1, 10);
    }

    /** "NONE: no such PEOPLE, alike"; "-2: there are no so many; NONE likewise, k is below 0" */
    private static void rests() {
        BurntEnds x = spend(0, 0);
        Check.due("the last one", x.rest(0, 1, 2), 10);
        Check.due("none behind it", x.rest(0, 1, 3), -2);
        Check.due("none", x.rest(0, 1, MAX), -2);
        for (int wrong : new int[] {-1, -2, MIN}) {
            Twins.refused("k " + wrong, Twins::busy, y -> y.rest(0, 1, wrong), -1);
        }
        for (int wrong : BEYOND) {
            Twins.refused("PERSON " + wrong, Twins::busy, y -> y.rest(wrong, 0, 0), -1);
            Twins.refused("PERSON " + wrong, Twins::busy, y -> y.rest(0, wrong, 0), -1);
            Twins.refused("PERSON " + wrong, Twins::busy, y -> y.rests(wrong, 0), -1);
            Twins.refused("PERSON " + wrong, Twins::busy, y -> y.rests(0, wrong), -1);
        }
        Check.due("alike", x.rests(1, 1), -1);
        Check.due("alike", x.rest(1, 1, 0), -1);
        Check.due("NONE goes first", x.rest(1, 1, 9), -1);
    }

    /** "CALM (n 0 .. 6) in least terms .. NONE: no such ones." */
    private static void calm() {
        calmIs(0, 6, 1, 1);
        calmIs(100, 0, 1, 1);
        calmIs(100, 1, 0, 1);
        calmIs(100, 6, 0, 1);
        calmIs(1, 6, 941480149401L, 1000000000000L);
        calmIs(99, 6, 1, 1000000000000L);
        calmIs(50, 6, 1, 64);
        calmIs(60, 1, 2, 5);
        calmIs(25, 2, 9, 16);
        calmIs(37, 0, 1, 1);
        for (int wrong : new int[] {-1, 7, MIN, MAX}) {
            Twins.refused("n " + wrong, Twins::busy, y -> y.calm(wrong, 0), -1);
            Twins.refused("n " + wrong, Twins::busy, y -> y.calm(wrong, 1), -1);
        }
        for (int wrong : new int[] {-1, 2, MIN, MAX}) {
            Twins.refused("what " + wrong, Twins::busy, y -> y.calm(1, wrong), -1);
        }
    }

    private static void calmIs(int draft, int n, long above, long below) {
        BurntEnds x = Check.told("draft " + draft + ";");
        Check.due("above, draft " + draft + ", n " + n, x.calm(n, 0), above);
        Check.due("below, draft " + draft + ", n " + n, x.calm(n, 1), below);
    }

    // ---- promises 28 to 32

    private static BurntEnds facts(int many) {
        BurntEnds x = Check.told("man a 9;man b 9;");
        for (int k = 0; k < many; k++) {
            x.see(1, 0, 0, true);
        }
        return x;
    }

    /** "SEEN FACTS (see), at most 24"; "behind so many HOURS 1 .. 60"; "(inch 0 .. 59)" */
    private static void see() {
        BurntEnds x = facts(0);
        Check.due("1 HOUR", x.see(1, 0, 0, true), 0);
        Check.due("60 HOURS", x.see(60, 1, 0, true), 1);
        Check.due("inch 59", x.see(1, 1, 59, false), 2);
        for (int wrong : new int[] {0, -1, 61, MIN, MAX}) {
            Twins.refused("hours " + wrong, Twins::busy, y -> y.see(wrong, 0, 0, true), -1);
        }
        for (int wrong : BEYOND) {
            Twins.refused("PERSON " + wrong, Twins::busy, y -> y.see(1, wrong, 0, true), -1);
        }
        for (int wrong : new int[] {-1, 60, MIN, MAX}) {
            Twins.refused("inch " + wrong, Twins::busy, y -> y.see(1, 0, wrong, false), -1);
        }
        Check.due("the 24th", facts(23).see(1, 0, 0, true), 23);
        Twins.refused("a 25th", () -> facts(24), y -> y.see(1, 0, 0, true), -1);
        BurntEnds full = facts(24);
        full.text(0);
        Check.text(full, "man a 9;");
        Check.due("a TEXT makes room", full.see(1, 0, 0, true), 0);
    }

    /** "One that strikes a FACT: its number; NONE: no such one, or there are 24."; "one ahead of it" */
    private static void strike() {
        Twins.refused("none there", () -> facts(0), x -> x.strike(0), -1);
        BurntEnds x = facts(3);
        Check.due("the first", x.strike(0), 3);
        Check.due("the latest", x.strike(3), 4);
        Check.due("one that is STRUCK", x.strike(0), 5);
        for (int wrong : new int[] {3, 4, -1, MIN, MAX}) {
            Twins.refused("strike " + wrong, () -> facts(3), y -> y.strike(wrong), -1);
        }
        Check.due("the 24th", facts(23).strike(22), 23);
        Twins.refused("a 25th", () -> facts(24), y -> y.strike(23), -1);
    }

    /** "what strikes may be STRUCK: then it doesn't count; asked from the last one on" */
    private static void struckFromTheLastOneOn() {
        BurntEnds x = Check.told("man a 9;");
        x.see(1, 0, 9, true);
        int ten = ALL & ~((1 << 9) - 1);
        Check.due("KNOWN", x.lengths(0), ten);
        for (int k = 0; k < 23; k++) {
            x.strike(k);
            // each strikes the one ahead of it: every other time the first is STRUCK
            Check.due("struck " + (k + 1) + " deep", x.lengths(0), k % 2 == 0 ? ALL : ten);
        }
        Check.due("24", x.count(12), 24);
        for (int n = 0; n <= 24; n++) {
            Check.due("known(" + n + ")", x.known(n), true);
            Check.due("by " + n, x.lengths(0), n == 0 || n % 2 == 0 ? ALL : ten);
        }
    }

    /** "KNOWN by n from now on (-1: by all, also those to come): true; false: no such n" */
    private static void known() {
        BurntEnds x = facts(2);
        Check.due("by all at first", x.count(13), 2);
        Check.due("0", x.known(0), true);
        Check.due("by none", x.count(13), 0);
        Check.due("2", x.known(2), true);
        x.see(1, 0, 5, true);
        Check.due("not by those to come", x.count(13), 2);
        Check.due("3", x.known(3), true);
        Check.due("-1", x.known(-1), true);
        x.see(1, 0, 5, true);
        Check.due("also by those to come", x.count(13), 4);
        for (int wrong : new int[] {-2, 4, 5, 24, 25, MIN, MAX}) {
            Twins.refused("known(" + wrong + ")", Twins::busy, y -> y.known(wrong) ? 1 : 0, 0);
        }
        Check.due("24 of 24", facts(24).known(24), true);
        Check.due("25 of 24", facts(24).known(25), false);
        Check.due("0 of a new object", new BurntEnds().known(0), true);
        Check.due("-1 of a new object", new BurntEnds().known(-1), true);
        Check.due("1 of a new object", new BurntEnds().known(1), false);
        BurntEnds z = facts(5);
        z.known(3);
        Check.text(z, "man a 9;");
        z.see(1, 0, 0, true);
        Check.due("all KNOWN behind a TEXT", z.count(13), 1);
    }

    /** "LENGTHS of one: 1 .. 30 (bits 0 .. 29; no more, whatever was told)" */
    private static void lengthsOneToThirty() {
        Check.due("all", Check.told("man a 1;").lengths(0), ALL);
        Check.due("whatever was told", Check.told("man a 60;").lengths(0), ALL);
        seenAlone(29, true, 1 << 29);
        seenAlone(30, true, 0);
        seenAlone(59, true, 0);
        seenAlone(59, false, ALL);
        seenAlone(30, false, ALL);
        seenAlone(29, false, ALL >> 1);
        seenAlone(0, true, ALL);
        seenAlone(0, false, 0);
        seenAlone(1, false, 1);
        seenAlone(1, true, ALL - 1);
    }

    /** One inch seen of a candle that doesn't burn. */
    private static void seenAlone(int inch, boolean isLeft, int want) {
        BurntEnds x = Check.told("man a 60;");
        x.see(1, 0, inch, isLeft);
        Check.due("inch " + inch + (isLeft ? " is LEFT" : " isn't"), x.lengths(0), want);
    }

    /** "behind so many HOURS 1 .. 60 (as it goes from the TEXT on, nothing done by call)" */
    private static void lengthsOfFacts() {
        // inch 5 goes in HOUR 5: behind 5 HOURS it is LEFT, behind 6 it isn't
        for (int hours = 1; hours <= 60; hours++) {
            BurntEnds x = Check.told("man a 60;light a 0 0;");
            x.see(hours, 0, 5, true);
            Check.due("behind " + hours, x.lengths(0), hours <= 5 ? ALL & ~31 : 0);
        }
        BurntEnds last = Check.told("man a 60;light a 0 0;law burn (hour=59)*9;");
        last.see(60, 0, 8, false);
        last.see(59, 0, 8, true);
        last.see(60, 0, 9, true);
        Check.due("behind 60", last.lengths(0), ALL & ~511);
        BurntEnds x = Check.told("man a 9;light a 0 0;");
        x.light(0, 1);
        x.go(3);
        x.cut(0, 0, 2);
        x.see(1, 0, 1, true);
        Check.due("from the TEXT on", x.lengths(0), ALL & ~1);
        BurntEnds windy = Check.told("man a 9;light a 0 0;draft 50;seed 3;");
        windy.see(1, 0, 1, false);
        windy.see(1, 0, 2, true);
        Check.due("WINDY as it goes", windy.lengths(0), ALL & ~3);
    }

    /** "in place of INCHES told, by which all KNOWN ones are so"; "NONE: no such PERSON" */
    private static void lengthsOf() {
        BurntEnds x = Check.told("man a 9;man b 4;");
        x.see(1, 1, 3, true);
        Check.due("so by the INCHES told of b", x.lengths(0), ALL);
        x.see(1, 1, 4, true);
        Check.due("not so by the INCHES told of b", x.lengths(0), 0);
        Check.due("in place of them", x.lengths(1), ALL & ~15);
        x.known(1);
        Check.due("KNOWN ones alone", x.lengths(0), ALL);
        for (int wrong : BEYOND) {
            Twins.refused("PERSON " + wrong, Twins::busy, y -> y.lengths(wrong), -1);
            Twins.refused("PERSON " + wrong, Twins::busy, y -> y.ask(wrong, 0), -1);
            Twins.refused("PERSON " + wrong, Twins::busy, y -> y.ask(wrong, 1), -1);
        }
    }

    /** "ASK, what 0: the inch, 1: how many are left at worst"; "the first of several (if there are none: 0, none left)" */
    private static void ask() {
        BurntEnds x = Check.told("man a 9;");
        Check.due("the middle", x.ask(0, 0) * 100 + x.ask(0, 1), 1515);
        x.see(1, 0, 1, false);
        Check.due("one length: the first inch", x.ask(0, 0) * 100 + x.ask(0, 1), 1);
        x.see(1, 0, 1, true);
        Check.due("none", x.ask(0, 0) * 100 + x.ask(0, 1), 0);
        BurntEnds y = Check.told("man a 9;");
        y.see(1, 0, 2, true);
        y.see(1, 0, 5, false);
        Check.due("of three the first that tells 1 from 2", y.ask(0, 0) * 100 + y.ask(0, 1), 302);
        BurntEnds out = Check.told("man a 9;light a 0 0;light a 1 0;");
        Check.due("all OUT by then: the first inch", out.ask(0, 0) * 100 + out.ask(0, 1), 30);
        for (int wrong : new int[] {-1, 2, MIN, MAX}) {
            Twins.refused("what " + wrong, Twins::busy, z -> z.ask(0, wrong), -1);
        }
    }

    /** "whether it is LEFT behind 20 HOURS (as above)" */
    private static void askBehindTwentyHours() {
        BurntEnds in = Check.told("man a 9;light a 1 19;law burn 9;");
        Check.due("HOUR 19 is one of them", in.ask(0, 0) * 100 + in.ask(0, 1), 615);
        BurntEnds behind = Check.told("man a 9;light a 1 20;law burn 9;");
        Check.due("HOUR 20 isn't", behind.ask(0, 0) * 100 + behind.ask(0, 1), 1515);
        behind.go(5);
        behind.cut(0, 0, 9);
        Check.due("nothing done by call", behind.ask(0, 0) * 100 + behind.ask(0, 1), 1515);
    }

    // ---- promises 33 and 34

    /** "(numbers from a seed 0 .. 2147483647 on ..; n 1 .. 99 HOURS from now) so many inches 0 .. 60"; "NONE" */
    private static void chance() {
        BurntEnds x = Check.told("man a 60;man b 60;light a 0 0;draft 100;law burn hour=98;");
        Check.due("seed 0", x.chance(0, 1, 0, 60), 10);
        Check.due("the greatest seed", x.chance(MAX, 1, 0, 60), 10);
        Check.due("98 HOURS", x.chance(5, 98, 0, 60), 10);
        Check.due("99 HOURS", x.chance(5, 99, 0, 60), 0);
        Check.due("59 of 59", x.chance(5, 99, 0, 59), 10);
        Check.due("0", x.chance(5, 99, 0, 0), 10);
        Check.due("b", x.chance(5, 99, 1, 60), 10);
        for (int wrong : new int[] {-1, MIN}) {
            Twins.refused("seed " + wrong, Twins::busy, y -> y.chance(wrong, 5, 0, 0), -1);
        }
        for (int wrong : new int[] {0, -1, 100, MIN, MAX}) {
            Twins.refused("n " + wrong, Twins::busy, y -> y.chance(5, wrong, 0, 0), -1);
        }
        for (int wrong : new int[] {-1, 61, MIN, MAX}) {
            Twins.refused("left " + wrong, Twins::busy, y -> y.chance(5, 5, 0, wrong), -1);
        }
        for (int wrong : BEYOND) {
            Twins.refused("PERSON " + wrong, Twins::busy, y -> y.chance(5, 5, wrong, 0), -1);
        }
    }

    /** "so many inches .. at least"; by a draft of 0 and 100 all times are alike */
    private static void chanceAtLeast() {
        for (int draft = 0; draft <= 100; draft += 100) {
            BurntEnds x = Check.told("man a 30;light a 0 0;draft " + draft + ";");
            int left = draft == 0 ? 20 : 10;
            Check.due("as many", x.chance(1, 10, 0, left), 10);
            Check.due("one more", x.chance(1, 10, 0, left + 1), 0);
        }
    }

    /** "numbers from a seed .. on, one behind another": the next time goes on where the last one ended */
    private static void chanceOneBehindAnother() {
        for (int n = 1; n <= 5; n++) {
            BurntEnds x = Check.told("man a 60;light a 0 0;draft 50;seed 9;law burn windy;");
            x.go(3);
            int now = Check.man(x, 0, 1);
            for (int left = now - n; left <= now; left++) {
                long number = 77;
                int times = 0;
                for (int draw = 0; draw < 10; draw++) {
                    int has = now;
                    for (int k = 0; k < n; k++) {
                        number = (number * 1103515245L + 12345L) & (1L << 31) - 1;
                        has -= number / 65536 % 100 < 50 ? 1 : 0;
                    }
                    times += has >= left ? 1 : 0;
                }
                Check.due("n " + n + ", left " + left, x.chance(77, n, 0, left), times);
            }
        }
    }

    /** "TRIED (n 0 .. 200); NONE: no such ones (i 0 of all but 2)" */
    private static void tried() {
        BurntEnds x = Check.told("man a 60;man b 60;man c 60;light a 0 0;law burn hour=199;draft 100;");
        for (int what = 0; what <= 4; what++) {
            Check.due("0 HOURS", x.tried(what, 0, 0), 180);
            Check.due("200 HOURS", x.tried(what, 0, 200), what == 2 ? 180 : what == 4 ? 120 : 179);
            Check.due("199 HOURS", x.tried(what, 0, 199), what == 4 ? 120 : 180);
            int asked = what;
            for (int wrong : new int[] {-1, 201, MIN, MAX}) {
                Twins.refused("n " + wrong, Twins::busy, y -> y.tried(asked, 0, wrong), -1);
            }
            for (int wrong : BEYOND) {
                Twins.refused("i " + wrong, Twins::busy, y -> y.tried(asked, wrong, 1), -1);
            }
            for (int i = 1; i <= 2; i++) {
                Check.due("i " + i + " of " + what, x.tried(what, i, 200), what == 2 ? 179 : -1);
            }
        }
        for (int wrong : new int[] {-1, 5, MIN, MAX}) {
            Twins.refused("what " + wrong, Twins::busy, y -> y.tried(wrong, 0, 1), -1);
        }
        BurntEnds nobody = new BurntEnds();
        Check.due("no PERSON i", nobody.tried(2, 0, 1), -1);
        Check.due("no PEOPLE", nobody.tried(1, 0, 200), 0);
    }

    /** "0 it is never WINDY, 1 always (windy by it), 2 no end .. burns (.. glows), 3 no BLOWS told, 4 E .. isn't asked" */
    private static void triedOtherwise() {
        for (int draft : new int[] {0, 49, 50, 100}) {
            boolean windy = draft >= 50;
            BurntEnds x = Check.told("man a 60;light a 0 0;draft " + draft + ";law burn 3+windy*2;");
            Check.due("never WINDY", x.tried(0, 0, 2), 54);
            Check.due("always", x.tried(1, 0, 2), 50);
            Check.due("it doesn't burn", x.tried(2, 0, 2), 60);
            Check.due("as it goes", x.tried(3, 0, 2), windy ? 50 : 54);
            Check.due("E isn't asked", x.tried(4, 0, 2), windy ? 56 : 58);
        }
        BurntEnds x = Check.told("man a 9;man b 9;light a 0 0;light b 0 0;blow a 0 1;blow b 0 3;");
        x.light(0, 1);
        x.go(1);
        Check.due("BLOWS told", x.tried(0, 0, 4), 9 - 2 - 4 + 9 - 3);
        Check.due("no BLOWS told", x.tried(3, 0, 3), 9 - 2 - 6 + 9 - 4);
        Check.due("no BLOWS told: OUT", x.tried(3, 0, 4), 0 + 9 - 5);
        x.blow(0, 1);
        Check.due("one by call counts", x.tried(3, 0, 1), 9 - 2 - 1 + 9 - 2);
    }

    /** What is asked changes nothing, and what it answers stays. */
    private static void questionsChangeNothing() {
        Twins.Call[] all = {
            x -> x.fault(0), x -> x.fault(1), x -> x.named(1 << 25), x -> Check.man(x, 0, 6), x -> x.june(0, 2),
            x -> x.lenders(2), x -> x.recall(0), x -> x.law(0, 0), x -> x.ahead(200, 0, 0), x -> x.ahead(7, 1, 1),
            x -> x.ahead(9, 2, 0), x -> x.ahead(9, 3, 0), x -> x.ahead(9, 4, 2), x -> x.ends(0), x -> x.alike(0, 1),
            x -> x.keepInch(0, 9), x -> x.times(0, 1), x -> x.lightings(0, 1, 9), x -> x.cover(), x -> x.last(30),
            x -> x.match(6), x -> x.match(2), x -> x.game(0, 0), x -> x.game(1, 1), x -> x.rests(0, 1),
            x -> x.rest(0, 1, 0), x -> x.calm(3, 0), x -> x.lengths(0), x -> x.ask(0, 0), x -> x.ask(1, 1),
            x -> x.chance(5, 99, 0, 3), x -> x.tried(0, 0, 200), x -> x.tried(1, 0, 9), x -> x.tried(2, 1, 9),
            x -> x.tried(3, 0, 9), x -> x.tried(4, 0, 9), x -> x.count(6), x -> x.text(-1), x -> x.text(9999)
        };
        for (int k = 0; k < all.length; k++) {
            Twins.asks("question " + k, Twins::busy, all[k]);
            Twins.asks("question " + k + " of a new object", BurntEnds::new, all[k]);
        }
    }
}
