/** Promises 18 to 20: KEEP, TIMES, LIGHTINGS. */
public final class PairTest {
    private static final int[] FEWEST = new int[200];

    public static void main(String[] args) {
        keepInch();
        known();
        all();
        Check.finish();
    }

    private static void keepInch() {
        BurntEnds x = Check.told("man a 60;man b 1;");
        Check.due("alone", x.keepInch(1, 0), 0);
        for (int inch = 0; inch < 60; inch++) {
            Check.due("keepInch " + inch, x.keepInch(0, inch), Math.max(inch, 59 - inch));
        }
        Check.due("beyond", x.keepInch(1, 1), -2);
        x.cut(0, 0, 10);
        x.cut(0, 1, 20);
        Check.due("10 .. 39", x.keepInch(0, 10), 29);
        Check.due("10 .. 39", x.keepInch(0, 39), 29);
        Check.due("10 .. 39", x.keepInch(0, 24), 15);
        Check.due("gone", x.keepInch(0, 9), -2);
        Check.due("gone", x.keepInch(0, 40), -2);
        for (int wrong : new int[] {-1, 60, Integer.MIN_VALUE, Integer.MAX_VALUE}) {
            Check.due("no inch", x.keepInch(0, wrong), -1);
            Check.due("no PERSON", x.keepInch(wrong, 0), -1);
        }
        x.cut(1, 0, 1);
        Check.due("OUT", x.keepInch(1, 0), -2);
    }

    private static void known() {
        BurntEnds x = Check.told("man a 60;man b 60;man c 1;");
        // the hour by the two ropes: 30, 60, and 45 by both
        Check.due("30, 45, 60", x.times(0, 1), 1L << 30 | 1L << 45 | 1L << 60);
        Check.due("30", x.lightings(0, 1, 30), 2);
        Check.due("45", x.lightings(0, 1, 45), 4);
        Check.due("60", x.lightings(0, 1, 60), 1);
        Check.due("59", x.lightings(0, 1, 59), -2);
        Check.due("the last inch by one end or two", x.lightings(2, 0, 1), 1);
        for (int wrong : new int[] {-1, 0, 61, Integer.MIN_VALUE, Integer.MAX_VALUE}) {
            Check.due("no time " + wrong, x.lightings(0, 1, wrong), -1);
        }
        Check.due("alike", x.lightings(0, 0, 30), -1);
        Check.due("alike", x.times(1, 1), -1);
        Check.due("no PERSON", x.times(0, 3), -1);
        Check.due("no PERSON", x.times(-1, 0), -1);
        Check.due("no PERSON", x.lightings(3, 0, 30), -1);
        x.light(0, 0);
        Check.due("no end LIT at first", x.lightings(0, 1, 60), 1);
        x.cut(0, 0, 60);
        Check.due("one is OUT", x.times(0, 1), 1L << 30 | 1L << 60);
        Check.due("it can't be LIT", x.lightings(0, 1, 30), 2);
        x.cut(1, 0, 60);
        Check.due("both are OUT", x.times(0, 1), 0);
        Check.due("none", x.lightings(0, 1, 1), -2);
    }

    /** HOUR by HOUR: at the beginning and behind a candle's end more ends may be LIT. */
    private static void search(int time, int one, int ends, int other, int others, boolean may, int lit) {
        for (int more = ends; more <= (may && one > 0 ? 2 : ends); more++) {
            for (int moreOthers = others; moreOthers <= (may && other > 0 ? 2 : others); moreOthers++) {
                int litNow = lit + more - ends + moreOthers - others;
                int one2 = Math.max(0, one - more);
                int other2 = Math.max(0, other - moreOthers);
                if (one2 == one && other2 == other) {
                    continue;
                }
                boolean out = one > 0 && one2 == 0 || other > 0 && other2 == 0;
                if (out) {
                    FEWEST[time + 1] = Math.min(FEWEST[time + 1], litNow);
                }
                search(time + 1, one2, one2 == 0 ? 0 : more, other2, other2 == 0 ? 0 : moreOthers, out, litNow);
            }
        }
    }

    private static void all() {
        for (int one = 0; one <= 60; one++) {
            BurntEnds x = Check.told("man a 60;man b 60;");
            if (one < 60) {
                x.cut(0, 0, 60 - one);
            }
            for (int other = 60; other >= 0; other -= 4) {
                java.util.Arrays.fill(FEWEST, 1000);
                search(0, one, 0, other, 0, true, 0);
                long bits = 0;
                for (int time = 1; time <= 60; time++) {
                    boolean can = FEWEST[time] < 1000;
                    bits |= can ? 1L << time : 0;
                    Check.due("lightings " + one + " " + other + " " + time, x.lightings(0, 1, time),
                        can ? FEWEST[time] : -2);
                }
                Check.due("times " + one + " " + other, x.times(0, 1), bits);
                Check.due("the other way", x.times(1, 0), bits);
                x.cut(1, 1, 4);
            }
        }
    }
}
