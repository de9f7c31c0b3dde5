import java.util.Random;

/** Promises 24 to 27: GAME, SPEND and its RESTS, CALM. */
public final class GameTest {
    private static final int[] MOVES = {1, 2, 11, 12};

    public static void main(String[] args) {
        game();
        gameByChance();
        longGame();
        rests();
        calm();
        Check.finish();
    }

    private static void game() {
        BurntEnds x = Check.told("man a 6;man b 4;man c 3;june a 0;june a 3;june a 9;june b 1;");
        Check.due("a", x.game(0, 0), 2);
        Check.due("a takes", x.game(0, 1), 1);
        Check.due("b", x.game(1, 0), 1);
        Check.due("b takes two", x.game(1, 1), 2);
        Check.due("c", x.game(2, 0), 0);
        Check.due("the first of several", x.game(2, 1), 1);
        x.cut(2, 0, 3);
        Check.due("OUT", x.game(2, 0), 0);
        Check.due("OUT", x.game(2, 1), 0);
        for (int wrong : new int[] {-1, 3, Integer.MIN_VALUE, Integer.MAX_VALUE}) {
            Check.due("no PERSON", x.game(wrong, 0), Integer.MIN_VALUE);
            Check.due("no what", x.game(0, wrong), Integer.MIN_VALUE);
        }
        Check.due("no what 2", x.game(0, 2), Integer.MIN_VALUE);
        BurntEnds low = Check.told("man a 5;june a 4;june a 3;");
        Check.due("two from the LOW end", low.game(0, 1), 12);
        Check.due("two more", low.game(0, 0), 2);
        BurntEnds one = Check.told("man a 7;june a 6;");
        Check.due("one from the LOW end", one.game(0, 1), 11);
        Check.due("one inch", Check.told("man a 1;june a 0;").game(0, 1), 1);
        BurntEnds behind = Check.told("man a 5;june a 2;");
        Check.due("fewer", behind.game(0, 0), worth(4, 0, 5));
    }

    /** By trying each move down to the end; june: bits. */
    private static int worth(long junes, int first, int end) {
        if (first == end) {
            return 0;
        }
        int best = Integer.MIN_VALUE;
        for (int move : MOVES) {
            best = Math.max(best, by(junes, first, end, move));
        }
        return best;
    }

    private static int by(long junes, int first, int end, int move) {
        int many = move % 10;
        if (many > end - first) {
            return Integer.MIN_VALUE;
        }
        int gain = 0;
        for (int k = 0; k < many; k++) {
            int inch = move > 10 ? end - 1 - k : first + k;
            gain += (int) (junes >> inch & 1);
        }
        return gain - (move > 10 ? worth(junes, first, end - many) : worth(junes, first + many, end));
    }

    private static void gameByChance() {
        Random r = new Random(11);
        for (int k = 0; k < 300; k++) {
            int length = 1 + r.nextInt(11);
            int before = r.nextInt(49);
            int behind = r.nextInt(49 - before + 1);
            behind = Math.min(behind, 60 - before - length);
            StringBuilder words = new StringBuilder("man a " + (before + length + behind) + ";");
            long junes = 0;
            for (int j = 0; j < 12; j++) {
                int inch = Math.min(59, before + r.nextInt(length + 1));
                if ((junes >> inch & 1) == 0) {
                    junes |= 1L << inch;
                    words.append("june a " + inch + ";");
                }
            }
            BurntEnds x = Check.told(words.toString());
            if (before > 0) {
                x.cut(0, 0, before);
            }
            if (behind > 0) {
                x.cut(0, 1, behind);
            }
            int best = worth(junes, before, before + length);
            int first = 0;
            for (int move : MOVES) {
                first = first == 0 && by(junes, before, before + length, move) == best ? move : first;
            }
            Check.due("game 0 of " + words, x.game(0, 0), best);
            Check.due("game 1 of " + words, x.game(0, 1), first);
        }
    }

    /** All 60 inches, each worth kept once found. */
    private static void longGame() {
        Random r = new Random(3);
        for (int k = 0; k < 40; k++) {
            int length = 60 - k / 10;
            StringBuilder words = new StringBuilder("man a " + length + ";");
            long junes = 0;
            for (int j = 0; j < 12; j++) {
                int inch = j == 0 ? 0 : j == 1 ? length - 1 : r.nextInt(length);
                if ((junes >> inch & 1) == 0) {
                    junes |= 1L << inch;
                    words.append("june a " + inch + ";");
                }
            }
            int[][] worth = new int[length + 1][length + 1];
            int first = 0;
            for (int many = 1; many <= length; many++) {
                for (int from = 0; from + many <= length; from++) {
                    int best = Integer.MIN_VALUE;
                    first = 0;
                    for (int move : MOVES) {
                        int takes = move % 10;
                        if (takes <= many) {
                            int at = move > 10 ? from + many - takes : from;
                            int gain = Long.bitCount(junes >> at & (1L << takes) - 1);
                            int rest = worth[move > 10 ? from : from + takes][many - takes];
                            first = gain - rest > best ? move : first;
                            best = Math.max(best, gain - rest);
                        }
                    }
                    worth[from][many] = best;
                }
            }
            BurntEnds x = Check.told(words.toString());
            Check.due("long game 0 of " + words, x.game(0, 0), worth[0][length]);
            Check.due("long game 1 of " + words, x.game(0, 1), first);
        }
    }

    private static int[] has(int mine, int others, int way, int otherWay) {
        if (way == 0 && otherWay == 0) {
            return new int[] {mine / 2, others / 2};
        }
        if (way == 1 && otherWay == 1) {
            return new int[] {mine, others};
        }
        return way == 0 ? new int[] {mine + 2, mine + others} : new int[] {mine + others, others + 2};
    }

    private static void rests() {
        for (int mine = 0; mine <= 6; mine++) {
            for (int others = 0; others <= 6; others++) {
                StringBuilder words = new StringBuilder("man a 9;man b 9;");
                for (int k = 0; k < mine; k++) {
                    words.append("june a " + (k + 2) + ";");
                }
                for (int k = 0; k < others; k++) {
                    words.append("june b " + (k == 5 ? 59 : k + 3) + ";");
                }
                BurntEnds x = Check.told(words.toString());
                x.cut(0, 0, 3);
                int left = Math.max(0, mine - 1);
                int otherLeft = Math.min(5, others);
                int found = 0;
                for (int way = 0; way < 2; way++) {
                    for (int otherWay = 0; otherWay < 2; otherWay++) {
                        int[] now = has(left, otherLeft, way, otherWay);
                        if (has(left, otherLeft, 1 - way, otherWay)[0] <= now[0]
                            && has(left, otherLeft, way, 1 - otherWay)[1] <= now[1]) {
                            Check.due("rest " + words, x.rest(0, 1, found), 10 * way + otherWay);
                            found++;
                        }
                    }
                }
                Check.due("rests " + words, x.rests(0, 1), found);
                Check.due("no more", x.rest(0, 1, found), -2);
            }
        }
        BurntEnds x = Check.told("man a 9;man b 9;");
        Check.due("no such k", x.rest(0, 1, Integer.MAX_VALUE), -2);
        Check.due("k below 0", x.rest(0, 1, -1), -1);
        Check.due("alike", x.rest(1, 1, 0), -1);
        Check.due("alike", x.rests(1, 1), -1);
        Check.due("no PERSON", x.rests(0, 2), -1);
        Check.due("no PERSON", x.rest(-1, 0, 0), -1);
    }

    private static void calm() {
        for (int draft = 0; draft <= 100; draft++) {
            BurntEnds x = Check.told("man a 9;draft " + draft + ";");
            for (int n = 0; n <= 6; n++) {
                java.math.BigInteger up = java.math.BigInteger.valueOf(100 - draft).pow(n);
                java.math.BigInteger down = java.math.BigInteger.valueOf(100).pow(n);
                java.math.BigInteger common = up.gcd(down);
                Check.due("above", x.calm(n, 0), up.divide(common).longValue());
                Check.due("below", x.calm(n, 1), down.divide(common).longValue());
            }
        }
        BurntEnds x = Check.told("draft 1;");
        Check.due("99 to the 6", x.calm(6, 0), 941480149401L);
        Check.due("100 to the 6", x.calm(6, 1), 1000000000000L);
        Check.due("of no HOUR", x.calm(0, 0), 1);
        for (int wrong : new int[] {-1, 7, Integer.MIN_VALUE, Integer.MAX_VALUE}) {
            Check.due("n " + wrong, x.calm(wrong, 0), -1);
            Check.due("what " + wrong, x.calm(1, wrong), -1);
        }
        Check.due("what 2", x.calm(1, 2), -1);
    }
}
