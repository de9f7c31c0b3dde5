import java.util.Random;

/** Any calls in any state: no exception but those that man() says, and the same answers again. */
public final class FuzzTest {
    private static final int[] EDGES = {
        -1, 0, 1, 2, 3, 4, 5, 6, 7, 8, 14, 15, 24, 30, 31, 32, 59, 60, 61, 63, 64, 99, 100, 199, 200, 201, 360, 361,
        700, 701, 9800, Integer.MAX_VALUE, Integer.MIN_VALUE, Integer.MIN_VALUE + 1, Integer.MAX_VALUE - 1
    };
    private static final String[] PIECES = {
        "man ", "june ", "light ", "blow ", "lend ", "draft ", "seed ", "law burn ", "law glow ", "law recall ", "law ",
        "a ", "b ", "c ", "abcdef ", "abcdefg ", "0", "1", "5", "60", "9999", "10000", "99999", ";", ";", ";", "(", ")",
        "<", ">", "=", "+", "-", "*", "/", "or ", "and ", "not ", "left", "lit", "junes", "windy", "top", "low", "hour",
        " ", "\n", "\t", "\u00ff", "A", "man a 5;", "man b 7;", "light a 0 0;", "light b 1 1;", "lend a b;", "june a 1;",
        "blow a 0 2;", "draft 40;"
    };

    private final Random r;
    private final Random again;

    private FuzzTest(int seed) {
        r = new Random(seed);
        again = new Random(seed);
    }

    public static void main(String[] args) {
        for (int seed = 0; seed < 400; seed++) {
            new FuzzTest(seed).run();
        }
        Check.finish();
    }

    private void run() {
        BurntEnds x = new BurntEnds();
        BurntEnds y = new BurntEnds();
        for (int k = 0; k < 512; k++) {
            long first = call(x, r);
            long second = call(y, again);
            Check.due("the same call again", second, first);
        }
    }

    private static int number(Random r) {
        int way = r.nextInt(10);
        return way == 0 ? r.nextInt() : way < 4 ? EDGES[r.nextInt(EDGES.length)] : r.nextInt(8);
    }

    private static String words(Random r) {
        if (r.nextInt(3) > 0) {
            return Model.random(r).words();
        }
        StringBuilder text = new StringBuilder();
        for (int k = r.nextInt(20); k > 0; k--) {
            text.append(PIECES[r.nextInt(PIECES.length)]);
        }
        return text.toString();
    }

    private static long call(BurntEnds x, Random r) {
        if (r.nextInt(40) == 0) {
            return Check.text(x, words(r));
        }
        int a = number(r);
        int b = number(r);
        int c = number(r);
        int d = number(r);
        int which = r.nextInt(37);
        try {
            return which < 18 ? firstCalls(x, which, a, b, c) : otherCalls(x, which, a, b, c, d);
        } catch (IndexOutOfBoundsException e) {
            return expected(which == 4 && (a < 0 || a >= x.count(0)), which, e);
        } catch (java.util.NoSuchElementException e) {
            return expected(which == 4 && a >= 0 && a < x.count(0) && (b < 0 || b > 7), which, e);
        } catch (RuntimeException e) {
            return expected(false, which, e);
        }
    }

    private static long expected(boolean is, int which, RuntimeException e) {
        boolean own = e.getStackTrace()[0].getMethodName().equals("man");
        Check.due("call " + which + " throws " + e, is && own, true);
        return -77;
    }

    private static long firstCalls(BurntEnds x, int which, int a, int b, int c) {
        switch (which) {
            case 0: return x.feed(a, b, c, a, b);
            case 1: return x.text(a);
            case 2: return x.fault(a);
            case 3: return x.named(a);
            case 4: return x.man(a, b);
            case 5: return x.june(a, b);
            case 6: return x.lenders(a);
            case 7: return x.recall(a);
            case 8: return x.law(a, b);
            case 9: return x.light(a, b) ? 1 : 0;
            case 10: return x.blow(a, b) ? 1 : 0;
            case 11: return x.cut(a, b, c);
            case 12: return x.go(a);
            case 13: return x.ahead(a, b, c);
            case 14: return x.ends(a);
            case 15: return x.alike(a, b);
            case 16: return x.keepInch(a, b);
            default: return x.times(a, b);
        }
    }

    private static long otherCalls(BurntEnds x, int which, int a, int b, int c, int d) {
        switch (which) {
            case 18: return x.lightings(a, b, c);
            case 19: return x.cover();
            case 20: return x.last(a);
            case 21: return x.match(a);
            case 22: return x.game(a, b);
            case 23: return x.rests(a, b);
            case 24: return x.rest(a, b, c);
            case 25: return x.calm(a, b);
            case 26: return x.see(a, b, c, (d & 1) == 0);
            case 27: return x.strike(a);
            case 28: return x.known(a) ? 1 : 0;
            case 29: return x.lengths(a);
            case 30: return x.ask(a, b);
            case 31: return x.chance(a, b, c, d);
            case 32: return x.tried(a, b, c);
            case 33: return x.undo();
            case 34: return x.keep();
            case 35: return x.back();
            default: return x.count(a);
        }
    }
}
