/** Promises 28 to 32: FACTS seen and struck, LENGTHS, what to ask. */
public final class FactsTest {
    private static final int ALL = (1 << 30) - 1;

    public static void main(String[] args) {
        see();
        strikeAndKnown();
        lengths();
        others();
        lawsByLength();
        nothingByCall();
        ask();
        Check.finish();
    }

    private static void see() {
        BurntEnds x = Check.told("man a 9;");
        Check.due("hours 0", x.see(0, 0, 0, true), -1);
        Check.due("hours 61", x.see(61, 0, 0, true), -1);
        Check.due("no PERSON", x.see(1, 1, 0, true), -1);
        Check.due("no PERSON", x.see(1, -1, 0, true), -1);
        Check.due("inch 60", x.see(1, 0, 60, true), -1);
        Check.due("inch -1", x.see(1, 0, -1, true), -1);
        Check.due("none yet", x.strike(0), -1);
        Check.due("none", x.count(12), 0);
        for (int k = 0; k < 24; k++) {
            Check.due("number", k == 5 ? x.strike(4) : x.see(1 + k, 0, 59 - k, k % 2 == 0), k);
        }
        Check.due("there are 24", x.see(1, 0, 0, true), -1);
        Check.due("there are 24", x.strike(0), -1);
        Check.due("24", x.count(12), 24);
        Check.due("edges", Check.told("man a 9;").see(60, 0, 59, false), 0);
    }

    private static void strikeAndKnown() {
        BurntEnds x = Check.told("man a 9;light a 0 0;");
        // behind one HOUR inch 9 is LEFT: 10 inches at least; inch 19 isn't: 19 at most
        x.see(1, 0, 9, true);
        x.see(1, 0, 19, false);
        int atLeast = ALL & ~((1 << 9) - 1);
        int atMost = (1 << 19) - 1;
        Check.due("both", x.lengths(0), atLeast & atMost);
        Check.due("a strike", x.strike(1), 2);
        Check.due("struck", x.lengths(0), atLeast);
        Check.due("what strikes is struck", x.strike(2), 3);
        Check.due("it doesn't count", x.lengths(0), atLeast & atMost);
        Check.due("once more", x.strike(3), 4);
        Check.due("it counts", x.lengths(0), atLeast);
        Check.due("a struck one struck again", x.strike(1), 5);
        Check.due("still", x.lengths(0), atLeast);
        Check.due("itself is none", x.strike(6), -1);
        Check.due("-1 is none", x.strike(-1), -1);
        Check.due("known by 4", x.known(4), true);
        Check.due("by 4", x.lengths(0), atLeast & atMost);
        Check.due("count", x.count(13), 4);
        Check.due("no such n", x.known(7), false);
        Check.due("no such n", x.known(-2), false);
        Check.due("no such n", x.known(Integer.MAX_VALUE), false);
        Check.due("stays", x.count(13), 4);
        Check.due("by 1", x.known(1) ? x.lengths(0) : 0, atLeast);
        Check.due("by none", x.known(0) ? x.lengths(0) : 0, ALL);
        Check.due("those to come don't count", x.see(1, 0, 9, false), 6);
        Check.due("by none still", x.lengths(0), ALL);
        Check.due("by all there are", x.known(7), true);
        x.see(2, 0, 9, true);
        Check.due("not those to come", x.count(13), 7);
        Check.due("contrary", x.lengths(0), 0);
        Check.due("all, also those to come", x.known(-1), true);
        Check.due("count", x.count(13), 8);
        x.strike(6);
        Check.due("by all", x.lengths(0), atLeast);
        Check.due("known on nothing", new BurntEnds().known(0), true);
        Check.due("known on nothing", new BurntEnds().known(1), false);
    }

    private static void lengths() {
        BurntEnds x = Check.told("man a 60;light a 0 0;light a 1 3;blow a 0 5;");
        Check.due("no FACTS", x.lengths(0), ALL);
        Check.due("no PERSON", x.lengths(1), -1);
        Check.due("no PERSON", x.lengths(-1), -1);
        // behind 6 HOURS 5 are gone from the TOP, 3 from the LOW end
        x.see(6, 0, 5, true);
        Check.due("9 at least", x.lengths(0), ALL & ~((1 << 8) - 1));
        x.see(6, 0, 20, false);
        Check.due("23 at most", x.lengths(0), ((1 << 23) - 1) & ~((1 << 8) - 1));
        x.see(60, 0, 59, false);
        Check.due("so anyway", x.lengths(0), ((1 << 23) - 1) & ~((1 << 8) - 1));
        BurntEnds y = Check.told("man a 60;");
        y.see(1, 0, 35, true);
        Check.due("no more than 30", y.lengths(0), 0);
        BurntEnds z = Check.told("man a 1;");
        z.see(60, 0, 29, true);
        Check.due("30", z.lengths(0), 1 << 29);
    }

    private static void others() {
        BurntEnds x = Check.told("man a 9;man b 5;light b 0 0;");
        x.see(2, 1, 3, true);
        Check.due("so of b by INCHES told", x.lengths(0), ALL);
        Check.due("of b", x.lengths(1), ALL & ~7);
        x.see(2, 1, 7, true);
        Check.due("not so of b by INCHES told", x.lengths(0), 0);
        Check.due("of b in place of them", x.lengths(1), ALL & ~127);
        BurntEnds far = Check.told("man a 9;man b 50;");
        far.see(2, 1, 40, true);
        Check.due("INCHES told may be more than 30", far.lengths(0), ALL);
    }

    private static void lawsByLength() {
        // WINDY as it goes; left and junes are those of the length tried
        BurntEnds x = Check.told("man a 9;june a 20;light a 0 0;draft 50;law burn junes*3+windy+left/20;");
        x.see(1, 0, 1, false);
        // of 1 .. 19 burns 1 inch, of 20 burn 2, of 21 and more burn 5
        x.see(1, 0, 2, true);
        Check.due("by law", x.lengths(0), 1 << 19);
    }

    private static void nothingByCall() {
        BurntEnds x = Check.told("man a 9;light a 0 0;");
        x.see(1, 0, 9, true);
        x.light(0, 1);
        x.cut(0, 0, 5);
        x.go(4);
        Check.due("from the TEXT on", x.lengths(0), ALL & ~((1 << 9) - 1));
        Check.due("nothing is done", x.count(5), 4);
        Check.due("nothing is done", Check.man(x, 0, 0), 9);
    }

    private static void ask() {
        BurntEnds x = Check.told("man a 9;light a 0 0;light a 1 18;");
        // behind 20 HOURS 20 are gone from the TOP, 2 from the LOW end: of 23 .. 30 is one LEFT
        Check.due("inch 20, LEFT of 8 lengths", x.ask(0, 0), 20);
        Check.due("22 at worst", x.ask(0, 1), 22);
        x.see(20, 0, 20, true);
        Check.due("of 8 the middle", x.ask(0, 0), 24);
        Check.due("4 at worst", x.ask(0, 1), 4);
        x.see(20, 0, 24, true);
        x.see(20, 0, 25, false);
        Check.due("one", x.lengths(0), 1 << 26);
        Check.due("one: the first", x.ask(0, 0), 0);
        Check.due("one is left", x.ask(0, 1), 1);
        x.see(20, 0, 25, true);
        Check.due("none", x.ask(0, 0), 0);
        Check.due("none left", x.ask(0, 1), 0);
        Check.due("no PERSON", x.ask(1, 0), -1);
        Check.due("no PERSON", x.ask(-1, 0), -1);
        for (int wrong : new int[] {-1, 2, Integer.MIN_VALUE, Integer.MAX_VALUE}) {
            Check.due("no what", x.ask(0, wrong), -1);
        }
        BurntEnds unlit = Check.told("man a 9;");
        Check.due("half of 30", unlit.ask(0, 0), 15);
        Check.due("15 at worst", unlit.ask(0, 1), 15);
    }
}
