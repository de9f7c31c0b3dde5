/** Promises 15 to 17, 33 and 34: what comes, by chance, tried otherwise. */
public final class CourseTest {
    public static void main(String[] args) {
        ahead();
        ends();
        alike();
        chance();
        tried();
        Check.finish();
    }

    private static void ahead() {
        BurntEnds x = Check.told("man a 9;man b 5;june a 4;june b 0;light a 0 0;light a 1 0;light b 0 1;draft 60;"
            + "law burn windy+lit;law glow left*2;law recall junes*10+top;lend a b;");
        Check.due("LEFT in 0", x.ahead(0, 0, 0), 9);
        Check.due("LEFT in 1", x.ahead(1, 0, 0), 3);
        Check.due("LEFT in 2", x.ahead(2, 0, 0), 0);
        Check.due("RECALL in 0", x.ahead(0, 1, 0), 10);
        Check.due("RECALL in 1", x.ahead(1, 1, 0), 13);
        Check.due("OUT in 1", x.ahead(1, 2, 0), 0);
        Check.due("OUT in 2", x.ahead(2, 2, -5), 1);
        Check.due("GLOW in 1", x.ahead(1, 3, 99), 18);
        Check.due("GLOW in 2", x.ahead(2, 3, 0), 18 + 6 + 10);
        Check.due("SEEN of b", x.ahead(2, 4, 1), 2);
        Check.due("nothing is done", x.count(5) + x.count(9) + x.count(8), 0);
        x.light(1, 1);
        Check.due("what was done by call counts", x.ahead(1, 0, 1), 3);
        Check.due("and stays to undo", x.undo(), 0);
        x.go(1);
        Check.due("GLOW more, not in all", x.ahead(0, 3, 0), 0);
        Check.due("HOURS more, not in all", x.ahead(0, 4, 1), 0);
        Check.due("n 200", x.ahead(200, 2, 0), 2);
        for (int wrong : new int[] {-1, 201, Integer.MIN_VALUE, Integer.MAX_VALUE}) {
            Check.due("no such n", x.ahead(wrong, 0, 0), -1);
        }
        for (int wrong : new int[] {-1, 5, Integer.MIN_VALUE, Integer.MAX_VALUE}) {
            Check.due("no such what", x.ahead(1, wrong, 0), -1);
        }
        for (int what : new int[] {0, 1, 4}) {
            Check.due("no PERSON 2", x.ahead(1, what, 2), -1);
            Check.due("no PERSON -1", x.ahead(1, what, -1), -1);
        }
        BurntEnds calm = Check.told("man a 9;light a 0 0;draft 49;");
        Check.due("not WINDY at 49", calm.ahead(3, 0, 0), 6);
        BurntEnds windy = Check.told("man a 9;light a 0 0;draft 50;");
        Check.due("WINDY at 50", windy.ahead(3, 0, 0), 3);
    }

    private static void ends() {
        BurntEnds x = Check.told("man a 4;man b 4;man c 60;man d 60;light a 0 0;light b 0 1;light b 1 2;light c 0 0;light d 0 99;"
            + "light d 1 99;law burn left<>60 or hour-hour/3*3=0;");
        Check.due("a", x.ends(0), 4);
        Check.due("b", x.ends(1), 4);
        Check.due("c", x.ends(2), 60);
        Check.due("d: 99, then two by two", x.ends(3), 99 + 30);
        Check.due("no PERSON", x.ends(4), -1);
        Check.due("no PERSON -1", x.ends(-1), -1);
        x.cut(0, 0, 4);
        Check.due("it is", x.ends(0), 0);
        BurntEnds late = Check.told("man a 60;man b 60;man c 60;light a 0 0;law burn hour>=139;");
        Check.due("in 199 HOURS", late.ends(0), 199);
        Check.due("never LIT", late.ends(1), -2);
        BurntEnds later = Check.told("man a 60;light a 0 0;law burn hour>=140;");
        Check.due("not in 199 HOURS", later.ends(0), -2);
        later.go(1);
        Check.due("from now on", later.ends(0), 199);
    }

    private static void alike() {
        BurntEnds x = Check.told("man a 9;man b 5;man c 5;man d 60;light a 0 0;light b 0 7;");
        Check.due("in 4", x.alike(0, 1), 4);
        Check.due("the other way", x.alike(1, 0), 4);
        Check.due("now", x.alike(1, 2), 0);
        Check.due("never", x.alike(0, 3), -2);
        Check.due("the same one", x.alike(1, 1), -1);
        Check.due("no PERSON", x.alike(1, 4), -1);
        Check.due("no PERSON", x.alike(-1, 1), -1);
        BurntEnds y = Check.told("man a 4;man b 3;light a 0 0;light a 1 0;light b 0 0;light b 1 0;");
        Check.due("none of both", y.alike(0, 1), 2);
        BurntEnds late = Check.told("man a 60;man b 1;light a 0 0;law burn hour>=140;");
        Check.due("in 199", late.alike(0, 1), 199);
        BurntEnds later = Check.told("man a 60;man b 1;light a 0 0;law burn hour>=141;");
        Check.due("not in 199", later.alike(0, 1), -2);
    }

    private static int drawn(int seed, int draft, int n, int length, int left) {
        long number = seed;
        int times = 0;
        for (int k = 0; k < 10; k++) {
            int gone = 0;
            for (int h = 0; h < n; h++) {
                if (draft > 0 && draft < 100) {
                    number = (number * 1103515245L + 12345L) % (1L << 31);
                }
                gone += draft == 100 || draft > 0 && number / 65536 % 100 < draft ? 2 : 1;
            }
            times += length - Math.min(gone, length) >= left ? 1 : 0;
        }
        return times;
    }

    private static void chance() {
        for (int draft : new int[] {0, 1, 35, 50, 80, 99, 100}) {
            BurntEnds x = Check.told("man a 60;man b 9;light a 0 0;draft " + draft + ";seed 77;");
            for (int n = 1; n <= 99; n += 7) {
                for (int left = 0; left <= 60; left += 4) {
                    Check.due("chance", x.chance(n * 1000003, n, 0, left), drawn(n * 1000003, draft, n, 60, left));
                }
            }
            Check.due("the greatest seed", x.chance(Integer.MAX_VALUE, 30, 0, 15),
                drawn(Integer.MAX_VALUE, draft, 30, 60, 15));
            Check.due("b stays", x.chance(0, 99, 1, 9), 10);
            Check.due("b never has more", x.chance(0, 99, 1, 10), 0);
            Check.due("nothing is done", x.count(5), 0);
        }
        BurntEnds x = Check.told("man a 60;light a 0 0;draft 40;seed 77;");
        int first = x.chance(3, 9, 0, 48);
        BurntEnds y = Check.told("man a 60;light a 0 0;draft 40;seed 77;");
        x.go(9);
        y.go(9);
        Check.due("chance takes no numbers of the HOURS", Check.man(x, 0, 1), Check.man(y, 0, 1));
        Check.due("first", first, drawn(3, 40, 9, 60, 48));
        Check.due("seed below 0", x.chance(-1, 5, 0, 0), -1);
        Check.due("n 0", x.chance(1, 0, 0, 0), -1);
        Check.due("n 100", x.chance(1, 100, 0, 0), -1);
        Check.due("PERSON 1", x.chance(1, 5, 1, 0), -1);
        Check.due("PERSON -1", x.chance(1, 5, -1, 0), -1);
        Check.due("left -1", x.chance(1, 5, 0, -1), -1);
        Check.due("left 61", x.chance(1, 5, 0, 61), -1);
        Check.due("left 0", x.chance(0, 99, 0, 0), 10);
    }

    private static void tried() {
        BurntEnds x = Check.told("man a 20;man b 20;light a 0 0;light a 1 1;blow a 0 2;light b 0 0;draft 50;"
            + "law burn 1+windy*3;");
        // as it goes: a 4, 8, 4 and b 4 an HOUR
        Check.due("never WINDY", x.tried(0, 0, 3), 40 - 4 - 3);
        Check.due("always", x.tried(1, 0, 3), 40 - 16 - 12);
        Check.due("a doesn't burn", x.tried(2, 0, 3), 20 + 8);
        Check.due("b doesn't", x.tried(2, 1, 3), 4 + 20);
        Check.due("no BLOWS", x.tried(3, 0, 3), 0 + 8);
        Check.due("E isn't asked", x.tried(4, 0, 3), 40 - 2 - 4 - 2 - 6);
        Check.due("0 HOURS", x.tried(4, 0, 0), 40);
        Check.due("nothing is done", x.count(5) + x.count(8), 0);
        BurntEnds calm = Check.told("man a 20;light a 0 0;draft 10;law burn 1+windy*3;");
        Check.due("windy by it", calm.tried(1, 0, 2), 12);
        Check.due("not as it goes", calm.tried(4, 0, 2), 18);
        BurntEnds lit = Check.told("man a 20;man b 20;light a 0 0;light b 0 0;");
        lit.go(2);
        Check.due("from now on", lit.tried(2, 0, 3), 18 + 15);
        for (int what = 0; what <= 4; what++) {
            Check.due("n -1", x.tried(what, 0, -1), -1);
            Check.due("n 201", x.tried(what, 0, 201), -1);
            Check.due("n 200", x.tried(what, 0, 200) >= 0, true);
            Check.due("i 1", x.tried(what, 1, 2) >= 0, what == 2);
            Check.due("i -1", x.tried(what, -1, 2), -1);
            Check.due("i 2", x.tried(what, 2, 2), -1);
        }
        Check.due("what -1", x.tried(-1, 0, 2), -1);
        Check.due("what 5", x.tried(5, 0, 2), -1);
        Check.due("nobody", new BurntEnds().tried(2, 0, 0), -1);
    }
}
