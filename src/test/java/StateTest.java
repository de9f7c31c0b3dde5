/** Promises 6 to 14 and 35 to 38: what is, what is done by call, undone, kept. */
public final class StateTest {
    private static final String WORDS = "man ann 6;man bo 4;man cy 3;june ann 0;june ann 3;june ann 9;june bo 1;"
        + "light ann 0 0;light ann 1 2;light bo 0 1;blow ann 0 3;blow cy 1 3;lend ann cy;lend bo ann;";

    public static void main(String[] args) {
        man();
        june();
        lenders();
        recall();
        law();
        errors();
        lightAndBlow();
        cut();
        go();
        goByNumbers();
        lastHour();
        glowAndSeen();
        idle();
        undo();
        image();
        counts();
        Check.finish();
    }

    private static void man() {
        BurntEnds x = Check.told(WORDS);
        int[] ann = {6, 6, 0, 5, 0, 2, 0, 0};
        for (int what = 0; what < ann.length; what++) {
            Check.due("man(0, " + what + ")", Check.man(x, 0, what), ann[what]);
        }
        x.go(3);
        int[] then = {6, 2, 3, 4, 3, 1, 1, 3};
        for (int what = 0; what < then.length; what++) {
            Check.due("then man(0, " + what + ")", Check.man(x, 0, what), then[what]);
        }
        x.go(3);
        int[] out = {6, 0, -2, -2, 0, 0, 0, 5};
        for (int what = 0; what < out.length; what++) {
            Check.due("out man(0, " + what + ")", Check.man(x, 0, what), out[what]);
        }
        for (int wrong : new int[] {-1, 3, 6, 60, Integer.MIN_VALUE, Integer.MAX_VALUE}) {
            Check.due("no such PERSON", Check.man(x, wrong, 0), -101);
            Check.due("neither", Check.man(x, wrong, 8), -101);
        }
        for (int wrong : new int[] {-1, 8, 99, Integer.MIN_VALUE, Integer.MAX_VALUE}) {
            Check.due("no such what", Check.man(x, 2, wrong), -102);
        }
    }

    private static void june() {
        BurntEnds x = Check.told(WORDS);
        Check.due("LEFT", x.june(0, 3), 2);
        Check.due("beyond the INCHES", x.june(0, 9), 1);
        Check.due("none told", x.june(0, 59), 0);
        Check.due("another one's", x.june(1, 3), 0);
        x.cut(0, 0, 1);
        Check.due("gone", x.june(0, 0), 1);
        Check.due("of the low end", x.cut(0, 1, 3), 2);
        Check.due("gone, too", x.june(0, 3), 1);
        Check.due("no inch 60", x.june(0, 60), -1);
        Check.due("no inch -1", x.june(0, -1), -1);
        Check.due("no PERSON 3", x.june(3, 0), -1);
        Check.due("no PERSON -1", x.june(-1, 0), -1);
        BurntEnds far = Check.told("man a 60;june a 59;june a 0;");
        Check.due("the 60th inch", far.june(0, 59), 2);
        Check.due("both", Check.man(far, 0, 5), 2);
        far.cut(0, 1, 1);
        Check.due("the 60th inch is cut", far.june(0, 59), 1);
        Check.due("the first one is LEFT", far.june(0, 0), 2);
    }

    private static void lenders() {
        BurntEnds x = Check.told("man a 1;man b 1;man c 1;lend a c;lend b c;lend c a;");
        Check.due("of c", x.lenders(2), 3);
        Check.due("of a", x.lenders(0), 4);
        Check.due("of b", x.lenders(1), 0);
        Check.due("of nobody", x.lenders(3), -1);
        Check.due("of -1", x.lenders(-1), -1);
        Check.due("c doesn't SEE", Check.man(x, 2, 6), 0);
        x.light(1, 1);
        Check.due("c SEES by b", Check.man(x, 2, 6), 1);
        Check.due("b SEES by the own light", Check.man(x, 1, 6), 1);
        Check.due("a doesn't SEE: c is not LIT", Check.man(x, 0, 6), 0);
    }

    private static void recall() {
        Check.due("without a law", Check.told("man a 5;june a 1;june a 2;june a 7;").recall(0), 2);
        Check.due("with one", Check.told("man a 5;law recall left*100+windy;draft 50;").recall(0), 501);
        Check.due("draft 49", Check.told("man a 5;law recall left*100+windy;draft 49;").recall(0), 500);
        Check.due("put to 9999", Check.told("man a 5;law recall 9999+1;").recall(0), 9999);
        Check.due("put to 0", Check.told("man a 5;law recall 1-2;").recall(0), 0);
        Check.due("an ERROR", Check.told("man a 5;june a 0;law recall 1/0;").recall(0), 1);
        Check.due("no such PERSON", Check.told("man a 5;").recall(1), -1);
    }

    private static void law() {
        BurntEnds x = Check.told("man a 9;man b 2;june a 8;draft 50;law burn left*100+lit*10+windy;"
            + "law glow junes-5;law recall top*100+low*10+hour;");
        Check.due("burn", x.law(0, 0), 901);
        Check.due("below 0", x.law(1, 0), -4);
        x.light(0, 0);
        x.light(0, 1);
        x.cut(0, 0, 2);
        x.cut(0, 1, 1);
        Check.due("burn then", x.law(0, 0), 621);
        Check.due("glow then", x.law(1, 0), -5);
        Check.due("recall then", x.law(2, 0), 210);
        Check.due("of b", x.law(0, 1), 201);
        for (int wrong : new int[] {-1, 3, Integer.MAX_VALUE, Integer.MIN_VALUE}) {
            Check.due("no such law", x.law(wrong, 0), Long.MIN_VALUE);
            Check.due("no such PERSON", x.law(0, wrong), Long.MIN_VALUE);
        }
        Check.due("not told", Check.told("man a 9;law burn 1;").law(1, 0), Long.MIN_VALUE);
        worth("2+3*4", 14);
        worth("(2+3)*4", 20);
        worth("9-4-3", 2);
        worth("7/2", 3);
        worth("(0-7)/2", -3);
        worth("100/7/2", 7);
        worth("2*7/4", 3);
        worth("not 0", 1);
        worth("not 7", 0);
        worth("not not 7", 1);
        worth("7 and 9", 1);
        worth("7 and 0", 0);
        worth("0 or 9", 1);
        worth("0 or 0", 0);
        worth("1 or 0 and 0", 1);
        worth("not 0 and 0", 0);
        worth("not 1 < 0", 1);
        worth("1+1<3", 1);
        worth("3<=3 and 3>=3 and 3=3", 1);
        worth("3<>3 or 3<3 or 3>3", 0);
        worth("2<3", 1);
        worth("3>2", 1);
        worth("(0-1) and 1", 1);
    }

    private static void worth(String expression, long want) {
        BurntEnds x = Check.told("man a 9;law recall " + expression + ";");
        Check.due(expression, x.law(2, 0), want);
    }

    private static void errors() {
        worth("1/0", Long.MIN_VALUE);
        worth("0/0", Long.MIN_VALUE);
        worth("1 or 1/0", Long.MIN_VALUE);
        worth("0 and 1/0", Long.MIN_VALUE);
        worth("0*(1/0)", Long.MIN_VALUE);
        worth("1000*1000*1000*1000", 1000000000000L);
        worth("1000*1000*1000*1000+1", Long.MIN_VALUE);
        worth("1000*1000*1000*1000+1-1", Long.MIN_VALUE);
        worth("0-1000*1000*1000*1000", -1000000000000L);
        worth("0-1000*1000*1000*1000-1", Long.MIN_VALUE);
        worth("(0-1000)*1000*1000*1000", -1000000000000L);
        worth("1001*1000*1000*1000", Long.MIN_VALUE);
        // a product beyond a long that would come round as a small one
        worth("(8192*8192*8192)*(8192*8192*8192)", Long.MIN_VALUE);
        worth("(8192*8192*8192)*(8192*8192*8192)*0", Long.MIN_VALUE);
        worth("9999*9999*9999*0", 0);
    }

    private static void lightAndBlow() {
        BurntEnds x = Check.told("man a 3;man b 3;");
        Check.due("lit now", x.light(0, 1), true);
        Check.due("LIT already", x.light(0, 1), false);
        Check.due("bits", Check.man(x, 0, 4), 2);
        Check.due("the TOP, too", x.light(0, 0), true);
        Check.due("both", Check.man(x, 0, 4), 3);
        Check.due("blown out", x.blow(0, 1), true);
        Check.due("the TOP stays", Check.man(x, 0, 4), 1);
        Check.due("isn't LIT", x.blow(0, 1), false);
        Check.due("b isn't", x.blow(1, 0), false);
        for (int wrong : new int[] {-1, 2, 60, 32, Integer.MIN_VALUE, Integer.MAX_VALUE}) {
            Check.due("no PERSON " + wrong, x.light(wrong, 0), false);
            Check.due("no end " + wrong, x.light(1, wrong), false);
            Check.due("blow no PERSON " + wrong, x.blow(wrong, 0), false);
            Check.due("blow no end " + wrong, x.blow(0, wrong), false);
        }
        x.cut(1, 0, 3);
        Check.due("OUT", x.light(1, 0), false);
        Check.due("not counted as IDLE", x.count(10), 0);
        Check.due("what can be undone", x.count(14), 4);
        x.go(1);
        Check.due("it burns", Check.man(x, 0, 1), 2);
    }

    private static void cut() {
        BurntEnds x = Check.told("man a 9;man b 60;");
        x.light(0, 0);
        Check.due("from the TOP", x.cut(0, 0, 2), 7);
        Check.due("from the LOW end", x.cut(0, 1, 3), 4);
        Check.due("first", Check.man(x, 0, 2), 2);
        Check.due("last", Check.man(x, 0, 3), 5);
        Check.due("it stays LIT", Check.man(x, 0, 4), 1);
        Check.due("not so many", x.cut(0, 0, 5), -2);
        Check.due("0", x.cut(0, 0, 0), -1);
        Check.due("61", x.cut(0, 0, 61), -1);
        Check.due("-1", x.cut(0, 0, -1), -1);
        Check.due("no end", x.cut(0, 2, 1), -1);
        Check.due("no PERSON", x.cut(2, 0, 1), -1);
        Check.due("none changed it", Check.man(x, 0, 1), 4);
        Check.due("all", x.cut(0, 1, 4), 0);
        Check.due("OUT: not LIT", Check.man(x, 0, 4), 0);
        Check.due("OUT: none", x.cut(0, 1, 1), -2);
        Check.due("OUT: no such number goes first", x.cut(0, 1, 61), -1);
        Check.due("60", x.cut(1, 1, 60), 0);
    }

    private static void go() {
        BurntEnds x = Check.told("man a 9;man b 9;light a 0 0;light a 1 1;blow a 0 2;light b 0 0;law burn lit;");
        Check.due("go(0)", x.go(0), 0);
        Check.due("nothing burns", x.count(6), 18);
        for (int wrong : new int[] {-1, 201, Integer.MAX_VALUE, Integer.MIN_VALUE}) {
            Check.due("go(" + wrong + ")", x.go(wrong), -1);
        }
        Check.due("none goes", x.count(5), 0);
        Check.due("go(1)", x.go(1), 1);
        Check.due("a", Check.man(x, 0, 1), 8);
        Check.due("go(1)", x.go(1), 2);
        Check.due("a at both", Check.man(x, 0, 1), 4);
        Check.due("go(1)", x.go(1), 3);
        Check.due("blown out ahead", Check.man(x, 0, 1), 3);
        Check.due("go(200)", x.go(200), 203);
        Check.due("OUT", x.count(7), 2);
        // the LOW end's E is asked anew, and takes no more than is LEFT
        BurntEnds y = Check.told("man a 9;light a 0 0;light a 1 0;law burn left/2;");
        y.go(1);
        Check.due("anew: first", Check.man(y, 0, 2), 4);
        Check.due("anew: last", Check.man(y, 0, 3), 6);
        BurntEnds z = Check.told("man a 12;light a 0 0;light a 1 0;law burn 99;");
        z.go(1);
        Check.due("put to 9, then all", Check.man(z, 0, 1), 0);
        BurntEnds none = Check.told("man a 12;light a 0 0;law burn 0-5;");
        none.go(9);
        Check.due("put to 0", Check.man(none, 0, 1), 12);
        BurntEnds wrong = Check.told("man a 12;light a 0 0;draft 100;law burn 1/0;");
        wrong.go(1);
        Check.due("an ERROR in a WINDY HOUR", Check.man(wrong, 0, 1), 10);
        // of the same HOUR lights go ahead of blows
        BurntEnds both = Check.told("man a 5;blow a 0 0;light a 0 0;");
        both.go(1);
        Check.due("lit and blown out", Check.man(both, 0, 1), 5);
    }

    /** HOURS by call draw numbers from the seed on; 0 and 100 draw none. */
    private static void goByNumbers() {
        for (int draft : new int[] {1, 30, 50, 70, 99}) {
            BurntEnds x = Check.told("man a 60;light a 0 0;draft " + draft + ";seed 4711;law burn windy;");
            long number = 4711;
            int gone = 0;
            for (int k = 0; k < 50; k++) {
                number = (number * 1103515245L + 12345L) % (1L << 31);
                gone += number / 65536 % 100 < draft ? 1 : 0;
                x.go(1);
                Check.due("draft " + draft, Check.man(x, 0, 1), 60 - gone);
            }
        }
        BurntEnds unsown = Check.told("man a 60;light a 0 0;draft 30;law burn windy;seed 4711;");
        Check.text(unsown, "man a 60;light a 0 0;draft 30;law burn windy;");
        long last = 0;
        int left = 60;
        for (int k = 0; k < 40; k++) {
            last = (last * 1103515245L + 12345L) % (1L << 31);
            left -= last / 65536 % 100 < 30 ? 1 : 0;
            unsown.go(1);
            Check.due("from 0 on without a seed", Check.man(unsown, 0, 1), left);
        }
        BurntEnds always = Check.told("man a 60;light a 0 0;draft 100;seed 4711;");
        always.go(5);
        Check.due("draft 100", Check.man(always, 0, 1), 50);
        BurntEnds never = Check.told("man a 60;light a 0 0;seed 4711;");
        never.go(5);
        Check.due("draft 0", Check.man(never, 0, 1), 55);
    }

    private static void lastHour() {
        BurntEnds x = Check.told("man a 60;light a 0 0;law burn 0;law recall hour;");
        for (int k = 1; k <= 48; k++) {
            Check.due("go(200)", x.go(200), 200 * k);
        }
        Check.due("go(199)", x.go(199), 9799);
        Check.due("behind 9800", x.go(2), -1);
        Check.due("none does", x.count(5), 9799);
        Check.due("up to 9800", x.go(1), 9800);
        Check.due("go(0)", x.go(0), 9800);
        Check.due("go(1)", x.go(1), -1);
        Check.due("SEEN", Check.man(x, 0, 7), 9800);
        Check.due("recall put to 9999", x.ahead(200, 1, 0), 9999);
        Check.due("SEEN 9999 at most", x.ahead(200, 4, 0), 199);
        Check.due("behind the last HOUR as it goes", x.ahead(200, 0, 0), 60);
    }

    private static void glowAndSeen() {
        BurntEnds x = Check.told("man a 60;man b 9;man c 9;light a 0 0;light a 1 0;light b 0 1;lend a c;law burn 0;");
        x.go(1);
        Check.due("without a law: ends", x.count(9), 2);
        x.go(1);
        Check.due("of both", x.count(9), 5);
        Check.due("SEEN of a", Check.man(x, 0, 7), 2);
        Check.due("SEEN of b", Check.man(x, 1, 7), 1);
        Check.due("SEEN of c by a", Check.man(x, 2, 7), 2);
        Check.due("in sum", x.count(11), 5);
        BurntEnds y = Check.told("man a 60;light a 0 0;law burn 0;law glow 9999;");
        y.go(1);
        Check.due("put to 999", y.count(9), 999);
        y.go(100);
        Check.due("put to 99999 ahead of it", y.count(9), 99999);
        Check.due("no more", y.ahead(5, 3, 0), 0);
        BurntEnds z = Check.told("man a 60;light a 0 0;light a 1 0;law glow 1/0;law burn 0;");
        z.go(3);
        Check.due("an ERROR: ends", z.count(9), 6);
        BurntEnds none = Check.told("man a 60;light a 0 0;law glow 0-3;");
        none.go(3);
        Check.due("put to 0", none.count(9), 0);
        BurntEnds early = Check.told("man a 9;light a 0 0;law glow left*100+hour;");
        early.go(2);
        Check.due("ahead of burning", early.count(9), 900 + 801);
    }

    private static void idle() {
        BurntEnds x = Check.told("man a 2;man b 9;light a 0 0;light a 0 0;light a 1 5;blow b 0 1;blow a 0 5;light b 0 200;"
            .replace("light b 0 200;", ""));
        x.go(1);
        Check.due("LIT already", x.count(10), 1);
        x.go(1);
        Check.due("isn't LIT", x.count(10), 2);
        x.go(4);
        Check.due("OUT", x.count(10), 4);
        x.keep();
        x.go(5);
        x.back();
        Check.due("kept", x.count(10), 4);
    }

    private static void undo() {
        BurntEnds x = Check.told("man a 30;man b 5;");
        Check.due("nothing", x.undo(), -1);
        x.light(0, 0);
        x.light(0, 1);
        x.blow(0, 0);
        x.cut(0, 1, 30);
        Check.due("OUT", Check.man(x, 0, 4), 0);
        x.light(0, 0);
        x.cut(0, 0, 1);
        Check.due("four", x.count(14), 4);
        Check.due("the cut", x.undo(), 3);
        Check.due("LEFT again", Check.man(x, 0, 1), 30);
        Check.due("LIT again", Check.man(x, 0, 4), 2);
        Check.due("the blowing", x.undo(), 2);
        Check.due("both LIT", Check.man(x, 0, 4), 3);
        Check.due("go(0) is no HOUR", x.go(0), 0);
        Check.due("go(201) is none", x.go(201), -1);
        Check.due("still two", x.count(14), 2);
        Check.due("the lighting", x.undo(), 1);
        Check.due("one LIT", Check.man(x, 0, 4), 1);
        x.go(1);
        Check.due("an HOUR went by", x.undo(), -1);
        Check.due("it burnt", Check.man(x, 0, 1), 29);
        for (int k = 0; k < 25; k++) {
            x.cut(0, 0, 1);
        }
        Check.due("20 at most", x.count(14), 20);
        for (int k = 19; k >= 0; k--) {
            Check.due("undo", x.undo(), k);
            Check.due("LEFT by then", Check.man(x, 0, 1), 24 - k);
        }
        Check.due("the first five stay cut", Check.man(x, 0, 1), 24);
        Check.due("no more", x.undo(), -1);
    }

    private static void image() {
        BurntEnds x = Check.told("man a 30;man b 5;light a 0 0;light a 0 1;draft 40;seed 5;law glow hour;june a 0;");
        Check.due("none yet", x.back(), -1);
        x.go(3);
        x.light(1, 1);
        Check.due("keep", x.keep(), 3);
        Check.due("keep leaves what can be undone", x.count(14), 1);
        x.see(1, 0, 0, true);
        String ahead = Check.state(x);
        x.go(4);
        x.cut(0, 1, 3);
        String first = Check.state(x);
        x.see(1, 0, 1, true);
        x.known(1);
        Check.text(x, "x");
        x.feed(0, 0, 0, 0, 0);
        Check.due("back", x.back(), 3);
        Check.due("nothing to undo", x.undo(), -1);
        Check.due("FACTS stay", x.count(12), 2);
        Check.due("by how many, too", x.count(13), 1);
        Check.due("the FAULT, too", x.fault(0), 1);
        Check.due("the TAPE, too", x.feed(0, 0, 0, 0, 0), 40);
        x.go(4);
        x.cut(0, 1, 3);
        Check.text(x, "");
        BurntEnds y = Check.told("man a 30;man b 5;light a 0 0;light a 0 1;draft 40;seed 5;law glow hour;june a 0;");
        y.go(3);
        y.light(1, 1);
        y.keep();
        y.see(1, 0, 0, true);
        Check.due("the same as ahead", Check.state(y).equals(ahead), true);
        for (int k = 0; k < 3; k++) {
            y.go(4);
            y.cut(0, 1, 3);
            Check.due("the same numbers again", Check.state(y).equals(first), true);
            Check.due("back as often as one likes", y.back(), 3);
        }
        y.go(1);
        Check.due("in place of the one ahead", y.keep(), 4);
        y.go(1);
        Check.due("back to it", y.back(), 4);
    }

    private static void counts() {
        BurntEnds x = Check.told(WORDS + "law burn 1+lit;law glow (2);");
        int[] want = {3, 4, 3, 2, 4, 0, 13, 0, 0, 0, 0, 0, 0, 0, 0};
        for (int what = 0; what < want.length; what++) {
            Check.due("count(" + what + ")", x.count(what), want[what]);
        }
        for (int wrong : new int[] {-1, 15, 99, Integer.MIN_VALUE, Integer.MAX_VALUE}) {
            Check.due("count(" + wrong + ")", x.count(wrong), -1);
        }
        x.go(3);
        x.light(2, 0);
        x.light(2, 1);
        x.see(1, 0, 0, true);
        x.see(1, 0, 0, true);
        x.strike(0);
        x.known(2);
        int[] then = {3, 4, 3, 2, 4, 3, 3, 2, 2, 10, 0, 6, 3, 2, 2};
        for (int what = 0; what < then.length; what++) {
            if (what < 6 || what > 11) {
                Check.due("then count(" + what + ")", x.count(what), then[what]);
            }
        }
    }
}
