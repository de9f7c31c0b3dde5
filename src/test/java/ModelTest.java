import java.math.BigInteger;
import java.util.ArrayList;
import java.util.List;
import java.util.Random;

/** Promises 6 to 17, 30 to 38 on texts by chance, against Model. */
public final class ModelTest {
    private final Random r;
    private final BurntEnds x;
    private Model now;
    private Model image;
    private final List<Model> undoable = new ArrayList<>();
    private final List<int[]> facts = new ArrayList<>();
    private int known = -1;

    private ModelTest(int seed) {
        r = new Random(seed);
        do {
            now = Model.random(r);
        } while (now.words().length() > 700);
        x = Check.told(now.words());
    }

    public static void main(String[] args) {
        for (int seed = 0; seed < 300; seed++) {
            new ModelTest(seed).run();
        }
        Check.finish();
    }

    private void run() {
        for (int k = 0; k < 25; k++) {
            act();
            compareState();
            ask();
        }
    }

    private int anyMan() {
        return r.nextInt(now.inches.size());
    }

    private void remember() {
        undoable.add(now.copy());
        if (undoable.size() > 20) {
            undoable.remove(0);
        }
    }

    private void act() {
        int man = anyMan();
        int end = r.nextInt(2);
        switch (r.nextInt(8)) {
            case 0:
                go(r.nextInt(4));
                break;
            case 1: {
                boolean can = now.leftOf(man) > 0 && !now.lit[man][end];
                if (can) {
                    remember();
                    now.lit[man][end] = true;
                }
                Check.due("light", x.light(man, end), can);
                break;
            }
            case 2: {
                boolean can = now.lit[man][end];
                if (can) {
                    remember();
                    now.lit[man][end] = false;
                }
                Check.due("blow", x.blow(man, end), can);
                break;
            }
            case 3:
                cut(man, end, 1 + r.nextInt(4));
                break;
            case 4:
                if (undoable.isEmpty()) {
                    Check.due("undo", x.undo(), -1);
                } else {
                    now = undoable.remove(undoable.size() - 1);
                    Check.due("undo", x.undo(), undoable.size());
                }
                break;
            case 5:
                image = now.copy();
                Check.due("keep", x.keep(), now.hour);
                break;
            case 6:
                if (image == null || r.nextInt(3) != 0) {
                    fact();
                } else {
                    now = image.copy();
                    undoable.clear();
                    Check.due("back", x.back(), now.hour);
                }
                break;
            default:
                fact();
        }
    }

    private void go(int n) {
        now.wind = 1;
        for (int k = 0; k < n; k++) {
            now.pass();
        }
        if (n > 0) {
            undoable.clear();
        }
        Check.due("go", x.go(n), now.hour);
    }

    private void cut(int man, int end, int inches) {
        if (inches > now.leftOf(man)) {
            Check.due("cut", x.cut(man, end, inches), -2);
        } else {
            remember();
            now.take(man, end, inches);
            Check.due("cut", x.cut(man, end, inches), now.leftOf(man));
        }
    }

    private void fact() {
        if (facts.size() == 24) {
            Check.due("a 25th", x.see(1, 0, 0, true), -1);
            Check.due("a 25th", x.strike(0), -1);
            return;
        }
        int way = r.nextInt(5);
        if (way == 0 && !facts.isEmpty()) {
            int which = r.nextInt(facts.size());
            Check.due("strike", x.strike(which), facts.size());
            facts.add(new int[] {which});
        } else if (way == 1) {
            known = r.nextInt(facts.size() + 2) - 1;
            Check.due("known", x.known(known), true);
        } else {
            int man = anyMan();
            int hours = 1 + r.nextInt(12);
            int inch = r.nextInt(Math.min(60, now.inches.get(man) + 5));
            boolean is = r.nextInt(8) == 0 ? r.nextBoolean() : after(man, now.inches.get(man), hours)[inch];
            Check.due("see", x.see(hours, man, inch, is), facts.size());
            facts.add(new int[] {hours, man, inch, is ? 1 : 0});
        }
    }

    /** Which inches are LEFT, if a candle was so long. */
    private boolean[] after(int man, int length, int hours) {
        Model m = now.copy();
        m.inches.set(man, length);
        m.begin();
        for (int k = 0; k < hours; k++) {
            m.pass();
        }
        return m.left[man];
    }

    private int lengths(int man) {
        int by = known < 0 ? facts.size() : known;
        boolean[] struck = new boolean[24];
        int bits = (1 << 30) - 1;
        for (int f = by - 1; f >= 0; f--) {
            int[] fact = facts.get(f);
            if (struck[f]) {
                continue;
            }
            if (fact.length == 1) {
                struck[fact[0]] = true;
                continue;
            }
            for (int length = 1; length <= 30; length++) {
                int here = fact[1] == man ? length : now.inches.get(fact[1]);
                if (after(fact[1], here, fact[0])[fact[2]] != (fact[3] == 1)) {
                    bits &= ~(1 << (length - 1));
                }
            }
        }
        return bits;
    }

    private void compareState() {
        int lit = 0;
        int seen = 0;
        boolean windy = now.draft >= 50;
        for (int man = 0; man < now.inches.size(); man++) {
            int first = -2;
            int last = -2;
            for (int inch = 0; inch < 60; inch++) {
                if (now.left[man][inch]) {
                    first = first < 0 ? inch : first;
                    last = inch;
                }
            }
            int[] want = {now.inches.get(man), now.leftOf(man), first, last,
                (now.lit[man][0] ? 1 : 0) + (now.lit[man][1] ? 2 : 0), now.junesLeft(man),
                now.sees(man) ? 1 : 0, now.seen[man]};
            for (int what = 0; what < want.length; what++) {
                Check.due("man " + what, Check.man(x, man, what), want[what]);
            }
            Check.due("recall", x.recall(man), now.recall(man));
            for (int rule = 0; rule < 3; rule++) {
                BigInteger worth = now.worth(Model.RULES[rule], man, windy);
                Check.due("law " + now.laws, x.law(rule, man), worth == null ? Long.MIN_VALUE : worth.longValue());
            }
            lit += now.litEnds(man);
            seen += now.seen[man];
        }
        int[] want = {now.inches.size(), now.junes.size(), now.lights.size(), now.blows.size(), 0, now.hour,
            now.leftOfAll(), now.out(), lit, now.glow, now.idle, seen, facts.size(),
            known < 0 ? facts.size() : known, undoable.size()};
        for (String law : now.laws.values()) {
            want[4] += Model.knots(law);
        }
        for (int what = 0; what < want.length; what++) {
            Check.due("count " + what, x.count(what), want[what]);
        }
    }

    private void ask() {
        int n = r.nextInt(r.nextInt(10) == 0 ? 201 : 12);
        int man = anyMan();
        int other = anyMan();
        Model then = then(0, n);
        Check.due("ahead 0", x.ahead(n, 0, man), then.leftOf(man));
        Check.due("ahead 1", x.ahead(n, 1, man), then.recall(man));
        Check.due("ahead 2", x.ahead(n, 2, man), then.out());
        Check.due("ahead 3", x.ahead(n, 3, man), then.glow - now.glow);
        Check.due("ahead 4", x.ahead(n, 4, man), then.seen[man] - now.seen[man]);
        for (int what = 0; what < 5; what++) {
            int who = what == 2 ? man : 0;
            Model m = now.copy();
            m.wind = what == 0 ? 2 : what == 1 ? 3 : 0;
            m.still = what == 2 ? man : -1;
            m.noBlows = what == 3;
            m.noBurnLaw = what == 4;
            for (int k = 0; k < n; k++) {
                m.pass();
            }
            Check.due("tried " + what, x.tried(what, who, n), m.leftOfAll());
        }
        if (r.nextInt(4) == 0) {
            endsAndAlike(man, other);
            chance(man);
            lengthsAndAsk(man);
        }
    }

    private Model then(int wind, int n) {
        Model m = now.copy();
        m.wind = wind;
        for (int k = 0; k < n; k++) {
            m.pass();
        }
        return m;
    }

    private void endsAndAlike(int man, int other) {
        int ends = -2;
        int alike = -2;
        Model m = now.copy();
        for (int k = 0; k <= 199; k++) {
            ends = ends < 0 && m.leftOf(man) == 0 ? k : ends;
            alike = alike < 0 && m.leftOf(man) == m.leftOf(other) ? k : alike;
            m.pass();
        }
        Check.due("ends", x.ends(man), ends);
        Check.due("alike", x.alike(man, other), man == other ? -1 : alike);
    }

    private void chance(int man) {
        int n = 1 + r.nextInt(12);
        int left = r.nextInt(now.inches.get(man) + 1);
        int seed = r.nextInt() & Integer.MAX_VALUE;
        long number = seed;
        int want = 0;
        for (int k = 0; k < 10; k++) {
            Model m = now.copy();
            m.wind = 1;
            m.number = number;
            for (int h = 0; h < n; h++) {
                m.pass();
            }
            number = m.number;
            want += m.leftOf(man) >= left ? 1 : 0;
        }
        Check.due("chance", x.chance(seed, n, man, left), want);
    }

    private void lengthsAndAsk(int man) {
        int bits = lengths(man);
        Check.due("lengths", x.lengths(man), bits);
        int[] left = new int[60];
        for (int length = 1; length <= 30; length++) {
            if ((bits >> (length - 1) & 1) != 0) {
                boolean[] then = after(man, length, 20);
                for (int inch = 0; inch < 60; inch++) {
                    left[inch] += then[inch] ? 1 : 0;
                }
            }
        }
        int all = Integer.bitCount(bits);
        int best = 0;
        int fewest = 100;
        for (int inch = 0; inch < 60; inch++) {
            int worst = Math.max(left[inch], all - left[inch]);
            if (worst < fewest) {
                fewest = worst;
                best = inch;
            }
        }
        Check.due("ask 0", x.ask(man, 0), best);
        Check.due("ask 1", x.ask(man, 1), fewest);
    }
}
