import java.util.Random;

/** Promises 21 to 23: COVER, LAST, MATCH. */
public final class PeopleTest {
    public static void main(String[] args) {
        cover();
        last();
        match();
        byChance();
        Check.finish();
    }

    private static void cover() {
        Check.due("no PEOPLE", new BurntEnds().cover(), 0);
        Check.due("each for oneself", Check.told("man a 1;man b 1;man c 1;").cover(), 7);
        BurntEnds x = Check.told("man a 1;man b 1;man c 1;man d 1;lend c a;lend c b;lend d a;lend d b;lend c d;");
        Check.due("c", x.cover(), 4);
        x.cut(2, 0, 1);
        Check.due("c is OUT and SEES by none", x.cover(), -2);
        BurntEnds y = Check.told("man a 1;man b 1;lend a b;lend b a;");
        Check.due("the least", y.cover(), 1);
        y.cut(0, 0, 1);
        Check.due("one OUT SEES, too", y.cover(), 2);
        y.cut(1, 0, 1);
        Check.due("by none", y.cover(), -2);
        BurntEnds z = Check.told("man a 1;man b 1;lend a b;light b 0 0;");
        z.go(0);
        z.light(1, 0);
        Check.due("no other end LIT", z.cover(), 1);
    }

    private static void last() {
        BurntEnds x = Check.told("man a 6;man b 4;man c 3;man d 6;");
        Check.due("nobody", x.last(0), 0);
        Check.due("1", x.last(1), 1);
        Check.due("6", x.last(6), 1);
        Check.due("7: the least bits of two", x.last(7), 3);
        Check.due("11", x.last(11), 9);
        Check.due("12", x.last(12), 9);
        Check.due("13", x.last(13), 7);
        Check.due("14: a, b, d", x.last(14), 11);
        Check.due("19", x.last(19), 15);
        Check.due("20", x.last(20), -2);
        Check.due("360", x.last(360), -2);
        Check.due("361", x.last(361), -1);
        Check.due("-1", x.last(-1), -1);
        x.cut(0, 0, 6);
        Check.due("OUT lasts 0", x.last(6), 8);
        Check.due("all", Check.told("man a 60;man b 60;man c 60;man d 60;man e 60;man f 60;").last(360), 63);
        Check.due("no PEOPLE", new BurntEnds().last(0), 0);
        Check.due("no PEOPLE", new BurntEnds().last(1), -2);
    }

    private static void match() {
        BurntEnds x = Check.told("man a 5;man b 5;man c 5;man d 5;lend a c;lend a d;lend b c;light a 0 0;");
        Check.due("two", x.match(6), 2);
        Check.due("c by b, so that d has a", x.match(2), 1);
        Check.due("d by a", x.match(3), 0);
        Check.due("a by none", x.match(0), -2);
        Check.due("not so many", x.match(5), -2);
        Check.due("7", x.match(7), -1);
        Check.due("-1", x.match(-1), -1);
        x.cut(1, 0, 5);
        Check.due("b is OUT", x.match(6), 1);
        Check.due("the first by PEOPLE", x.match(2), 0);
        Check.due("none is left", x.match(3), -2);
        x.undo();
        x.light(2, 0);
        Check.due("c SEES", x.match(2), -2);
        Check.due("one", x.match(6), 1);
        Check.due("d by a", x.match(3), 0);
        x.light(0, 0);
        Check.due("all but b SEE", x.match(6), 0);
        BurntEnds y = Check.told("man a 5;man b 5;man c 5;lend a c;lend b c;");
        Check.due("lenders by numbers", y.match(2), 0);
        Check.due("one OUT may borrow", y.cut(2, 0, 5) + y.match(2), 0);
        BurntEnds none = new BurntEnds();
        Check.due("no PEOPLE", none.match(0), -2);
        Check.due("no PEOPLE", none.match(6), 0);
    }

    private static int[] best;

    /** All ways, the first one of the most kept: lenders by numbers ahead of none. */
    private static void ways(int[] options, int man, int[] chosen, int used) {
        if (man == options.length) {
            int have = 0;
            int bestHave = -1;
            for (int k = 0; k < chosen.length; k++) {
                have += chosen[k] >= 0 ? 1 : 0;
                bestHave += best != null && best[k] >= 0 ? 1 : 0;
            }
            if (best == null || have > bestHave + 1) {
                best = chosen.clone();
            }
            return;
        }
        for (int lender = 0; lender <= options.length; lender++) {
            boolean none = lender == options.length;
            if (none || ((options[man] & ~used) >> lender & 1) != 0) {
                chosen[man] = none ? -2 : lender;
                ways(options, man + 1, chosen, none ? used : used | 1 << lender);
            }
        }
    }

    private static void byChance() {
        Random r = new Random(5);
        for (int k = 0; k < 3000; k++) {
            Model m = Model.random(r);
            int people = m.inches.size();
            StringBuilder words = new StringBuilder();
            for (int man = 0; man < people; man++) {
                words.append("man " + Model.name(man) + " " + m.inches.get(man) + ";");
            }
            for (int[] l : m.lends) {
                words.append("lend " + Model.name(l[0]) + " " + Model.name(l[1]) + ";");
            }
            BurntEnds x = Check.told(words.toString());
            for (int man = 0; man < people; man++) {
                int way = r.nextInt(5);
                if (way == 0) {
                    x.light(man, r.nextInt(2));
                    m.lit[man][0] = true;
                } else if (way == 1) {
                    x.cut(man, 0, m.leftOf(man));
                    m.take(man, 0, 60);
                }
            }
            compare(x, m, r);
        }
    }

    private static void compare(BurntEnds x, Model m, Random r) {
        int people = m.inches.size();
        int[] options = new int[people];
        for (int[] l : m.lends) {
            if (!m.sees(l[1]) && m.leftOf(l[0]) > 0) {
                options[l[1]] |= 1 << l[0];
            }
        }
        best = null;
        ways(options, 0, new int[people], 0);
        int have = 0;
        for (int man = 0; man < 6; man++) {
            Check.due("match", x.match(man), man < people ? best[man] : -2);
            have += man < people && best[man] >= 0 ? 1 : 0;
        }
        Check.due("match(6)", x.match(6), have);
        int n = r.nextInt(m.leftOfAll() + 2);
        int cover = -2;
        int last = -2;
        for (int size = people; size >= 0; size--) {
            for (int set = (1 << people) - 1; set >= 0; set--) {
                if (Integer.bitCount(set) == size) {
                    cover = covers(m, set) ? set : cover;
                    last = inches(m, set) >= n ? set : last;
                }
            }
        }
        Check.due("cover", x.cover(), cover);
        Check.due("last", x.last(n), last);
    }

    private static boolean covers(Model m, int set) {
        for (int man = 0; man < m.inches.size(); man++) {
            boolean sees = (set >> man & 1) != 0;
            for (int[] l : m.lends) {
                sees |= l[1] == man && (set >> l[0] & 1) != 0;
            }
            if (!sees || (set >> man & 1) != 0 && m.leftOf(man) == 0) {
                return false;
            }
        }
        return true;
    }

    private static int inches(Model m, int set) {
        int sum = 0;
        for (int man = 0; man < m.inches.size(); man++) {
            sum += (set >> man & 1) * m.leftOf(man);
        }
        return sum;
    }
}
