import java.math.BigInteger;
import java.util.ArrayList;
import java.util.List;
import java.util.Map;
import java.util.Random;
import java.util.TreeMap;

/**
 * The HOURS of the document told once more, in another way than the class does:
 * each inch is a boolean, laws are read from their words each time, values are BigIntegers.
 */
final class Model {
    static final String[] RULES = {"burn", "glow", "recall"};

    final List<Integer> inches = new ArrayList<>();
    final List<int[]> junes = new ArrayList<>();
    final List<int[]> lights = new ArrayList<>();
    final List<int[]> blows = new ArrayList<>();
    final List<int[]> lends = new ArrayList<>();
    final Map<String, String> laws = new TreeMap<>();
    int draft;
    int seed;

    /** What is now. */
    boolean[][] left;
    boolean[][] lit;
    int[] topGone;
    int[] lowGone;
    int[] seen;
    int hour;
    int glow;
    int idle;
    long number;

    /** 0 as it goes, 1 by numbers, 2 never, 3 always. */
    int wind;
    int still = -1;
    boolean noBlows;
    boolean noBurnLaw;

    static String name(int man) {
        return String.valueOf((char) ('p' + man));
    }

    static Model random(Random r) {
        Model m = new Model();
        int people = 1 + r.nextInt(6);
        for (int k = 0; k < people; k++) {
            m.inches.add(r.nextInt(4) == 0 ? 1 + r.nextInt(60) : 1 + r.nextInt(20));
        }
        for (int k = r.nextInt(13); k > 0; k--) {
            int[] june = {r.nextInt(people), r.nextInt(r.nextInt(3) == 0 ? 60 : 12)};
            if (m.junes.stream().noneMatch(j -> j[0] == june[0] && j[1] == june[1])) {
                m.junes.add(june);
            }
        }
        int late = 1 + r.nextInt(15);
        for (int k = r.nextInt(13); k > 0; k--) {
            m.lights.add(new int[] {r.nextInt(people), r.nextInt(2), r.nextInt(late)});
        }
        for (int k = r.nextInt(9); k > 0; k--) {
            m.blows.add(new int[] {r.nextInt(people), r.nextInt(2), r.nextInt(late)});
        }
        for (int k = r.nextInt(9); k > 0; k--) {
            int[] lend = {r.nextInt(people), r.nextInt(people)};
            if (lend[0] != lend[1] && m.lends.stream().noneMatch(l -> l[0] == lend[0] && l[1] == lend[1])) {
                m.lends.add(lend);
            }
        }
        int[] drafts = {0, 100, 50, 49, r.nextInt(101), r.nextInt(101)};
        m.draft = drafts[r.nextInt(drafts.length)];
        m.seed = r.nextInt(100000);
        for (String rule : RULES) {
            if (r.nextInt(2) == 0) {
                m.laws.put(rule, expression(r, 3));
            }
        }
        m.begin();
        return m;
    }

    /** An E of 16 KNOTS at most. */
    static String expression(Random r, int depth) {
        StringBuilder text = new StringBuilder();
        do {
            text.setLength(0);
            or(r, depth, text);
        } while (knots(text.toString()) > 16);
        return text.toString();
    }

    static int knots(String text) {
        int knots = 0;
        for (String token : tokens(text)) {
            knots += token.equals("(") || token.equals(")") ? 0 : 1;
        }
        return knots;
    }

    private static void or(Random r, int depth, StringBuilder text) {
        and(r, depth, text);
        while (r.nextInt(4) == 0) {
            text.append(" or ");
            and(r, depth, text);
        }
    }

    private static void and(Random r, int depth, StringBuilder text) {
        not(r, depth, text);
        while (r.nextInt(4) == 0) {
            text.append(" and ");
            not(r, depth, text);
        }
    }

    private static void not(Random r, int depth, StringBuilder text) {
        while (r.nextInt(6) == 0) {
            text.append("not ");
        }
        sum(r, depth, text);
        if (r.nextInt(4) == 0) {
            String[] signs = {"<", "<=", "=", "<>", ">=", ">"};
            text.append(signs[r.nextInt(6)]);
            sum(r, depth, text);
        }
    }

    private static void sum(Random r, int depth, StringBuilder text) {
        product(r, depth, text);
        while (r.nextInt(3) == 0) {
            text.append(r.nextBoolean() ? "+" : "-");
            product(r, depth, text);
        }
    }

    private static void product(Random r, int depth, StringBuilder text) {
        part(r, depth, text);
        while (r.nextInt(3) == 0) {
            text.append(r.nextBoolean() ? "*" : "/");
            part(r, depth, text);
        }
    }

    private static void part(Random r, int depth, StringBuilder text) {
        String[] names = {"left", "lit", "junes", "windy", "top", "low", "hour"};
        int kind = r.nextInt(depth > 0 ? 5 : 4);
        if (kind == 4) {
            text.append('(');
            or(r, depth - 1, text);
            text.append(')');
        } else if (kind >= 2) {
            text.append(names[r.nextInt(names.length)]);
        } else {
            text.append(r.nextInt(4) == 0 ? r.nextInt(10000) : r.nextInt(4));
        }
    }

    /** The TEXT. */
    String words() {
        StringBuilder text = new StringBuilder();
        for (int k = 0; k < inches.size(); k++) {
            text.append("man " + name(k) + " " + inches.get(k) + ";");
        }
        for (int[] j : junes) {
            text.append("june " + name(j[0]) + " " + j[1] + ";");
        }
        for (int[] l : lights) {
            text.append("light " + name(l[0]) + " " + l[1] + " " + l[2] + ";");
        }
        for (int[] b : blows) {
            text.append("blow " + name(b[0]) + " " + b[1] + " " + b[2] + ";");
        }
        for (int[] l : lends) {
            text.append("lend " + name(l[0]) + " " + name(l[1]) + ";");
        }
        text.append("draft " + draft + ";seed " + seed + ";");
        for (String rule : laws.keySet()) {
            text.append("law " + rule + " " + laws.get(rule) + ";");
        }
        return text.toString();
    }

    void begin() {
        int people = inches.size();
        left = new boolean[people][60];
        lit = new boolean[people][2];
        topGone = new int[people];
        lowGone = new int[people];
        seen = new int[people];
        for (int man = 0; man < people; man++) {
            for (int inch = 0; inch < inches.get(man); inch++) {
                left[man][inch] = true;
            }
        }
        hour = 0;
        glow = 0;
        idle = 0;
        number = seed;
    }

    Model copy() {
        Model m = new Model();
        m.inches.addAll(inches);
        m.junes.addAll(junes);
        m.lights.addAll(lights);
        m.blows.addAll(blows);
        m.lends.addAll(lends);
        m.laws.putAll(laws);
        m.draft = draft;
        m.seed = seed;
        m.left = left.clone();
        m.lit = lit.clone();
        for (int man = 0; man < left.length; man++) {
            m.left[man] = left[man].clone();
            m.lit[man] = lit[man].clone();
        }
        m.topGone = topGone.clone();
        m.lowGone = lowGone.clone();
        m.seen = seen.clone();
        m.hour = hour;
        m.glow = glow;
        m.idle = idle;
        m.number = number;
        return m;
    }

    int leftOf(int man) {
        int sum = 0;
        for (boolean is : left[man]) {
            sum += is ? 1 : 0;
        }
        return sum;
    }

    int leftOfAll() {
        int sum = 0;
        for (int man = 0; man < left.length; man++) {
            sum += leftOf(man);
        }
        return sum;
    }

    int out() {
        int sum = 0;
        for (int man = 0; man < left.length; man++) {
            sum += leftOf(man) == 0 ? 1 : 0;
        }
        return sum;
    }

    int litEnds(int man) {
        return (lit[man][0] ? 1 : 0) + (lit[man][1] ? 1 : 0);
    }

    int junesLeft(int man) {
        int sum = 0;
        for (int[] j : junes) {
            sum += j[0] == man && left[man][j[1]] ? 1 : 0;
        }
        return sum;
    }

    boolean sees(int man) {
        boolean is = litEnds(man) > 0;
        for (int[] l : lends) {
            is |= l[1] == man && litEnds(l[0]) > 0;
        }
        return is;
    }

    /** Takes inches from an end, one by one. */
    void take(int man, int end, int many) {
        for (int k = 0; k < many; k++) {
            int found = -1;
            for (int inch = 0; inch < 60; inch++) {
                if (left[man][inch] && (end == 1 || found < 0)) {
                    found = inch;
                }
            }
            if (found >= 0) {
                left[man][found] = false;
                if (end == 0) {
                    topGone[man]++;
                } else {
                    lowGone[man]++;
                }
            }
        }
        if (leftOf(man) == 0) {
            lit[man] = new boolean[2];
        }
    }

    void pass() {
        for (int[] l : lights) {
            if (l[2] == hour) {
                if (leftOf(l[0]) > 0 && !lit[l[0]][l[1]]) {
                    lit[l[0]][l[1]] = true;
                } else {
                    idle++;
                }
            }
        }
        for (int[] b : blows) {
            if (b[2] == hour && !noBlows) {
                if (lit[b[0]][b[1]]) {
                    lit[b[0]][b[1]] = false;
                } else {
                    idle++;
                }
            }
        }
        boolean windy = windyNow();
        for (int man = 0; man < left.length; man++) {
            if (sees(man)) {
                seen[man] = Math.min(9999, seen[man] + 1);
            }
            if (litEnds(man) > 0) {
                glow = Math.min(99999, glow + put("glow", man, windy, 999, litEnds(man)));
            }
        }
        for (int man = 0; man < left.length; man++) {
            for (int end = 0; end < 2; end++) {
                if (lit[man][end] && leftOf(man) > 0 && man != still) {
                    int plain = windy ? 2 : 1;
                    take(man, end, noBurnLaw ? plain : put("burn", man, windy, 9, plain));
                }
            }
        }
        hour++;
    }

    private boolean windyNow() {
        if (wind == 1) {
            if (draft % 100 == 0) {
                return draft == 100;
            }
            number = BigInteger.valueOf(number).multiply(BigInteger.valueOf(1103515245L))
                .add(BigInteger.valueOf(12345)).mod(BigInteger.ONE.shiftLeft(31)).longValue();
            return (number >> 16) % 100 < draft;
        }
        return wind == 3 || wind == 0 && draft >= 50;
    }

    int recall(int man) {
        return put("recall", man, draft >= 50, 9999, junesLeft(man));
    }

    /** E of a law put to 0 .. most, or what is without. */
    int put(String rule, int man, boolean windy, int most, int without) {
        BigInteger value = worth(rule, man, windy);
        if (value == null) {
            return without;
        }
        return value.max(BigInteger.ZERO).min(BigInteger.valueOf(most)).intValue();
    }

    /** null: an ERROR, no such law. */
    BigInteger worth(String rule, int man, boolean windy) {
        if (!laws.containsKey(rule)) {
            return null;
        }
        Map<String, Integer> names = new TreeMap<>();
        names.put("left", leftOf(man));
        names.put("lit", litEnds(man));
        names.put("junes", junesLeft(man));
        names.put("windy", windy ? 1 : 0);
        names.put("top", topGone[man]);
        names.put("low", lowGone[man]);
        names.put("hour", hour);
        return new Worth(tokens(laws.get(rule)), names).of();
    }

    static List<String> tokens(String text) {
        List<String> all = new ArrayList<>();
        java.util.regex.Matcher m = java.util.regex.Pattern.compile("[a-z]+|[0-9]+|<=|<>|>=|[<>=+*/()-]").matcher(text);
        while (m.find()) {
            all.add(m.group());
        }
        return all;
    }

    /** Works an E out along its grammar; null is an ERROR. */
    static final class Worth {
        private final List<String> tokens;
        private final Map<String, Integer> names;
        private int at;

        Worth(List<String> tokens, Map<String, Integer> names) {
            this.tokens = tokens;
            this.names = names;
        }

        BigInteger of() {
            BigInteger value = e();
            if (at != tokens.size()) {
                throw new IllegalStateException("not read to its end: " + tokens);
            }
            return value;
        }

        private boolean take(String token) {
            if (at < tokens.size() && tokens.get(at).equals(token)) {
                at++;
                return true;
            }
            return false;
        }

        private static BigInteger bit(boolean is) {
            return is ? BigInteger.ONE : BigInteger.ZERO;
        }

        private BigInteger e() {
            BigInteger value = a();
            while (take("or")) {
                BigInteger right = a();
                value = value == null || right == null ? null : bit(value.signum() != 0 || right.signum() != 0);
            }
            return value;
        }

        private BigInteger a() {
            BigInteger value = b();
            while (take("and")) {
                BigInteger right = b();
                value = value == null || right == null ? null : bit(value.signum() != 0 && right.signum() != 0);
            }
            return value;
        }

        private BigInteger b() {
            if (take("not")) {
                BigInteger value = b();
                return value == null ? null : bit(value.signum() == 0);
            }
            return c();
        }

        private BigInteger c() {
            BigInteger value = s();
            for (String sign : new String[] {"<=", "<>", ">=", "<", "=", ">"}) {
                if (take(sign)) {
                    BigInteger right = s();
                    if (value == null || right == null) {
                        return null;
                    }
                    int way = value.compareTo(right);
                    return bit(way < 0 && sign.contains("<") || way == 0 && sign.contains("=")
                        || way > 0 && sign.contains(">"));
                }
            }
            return value;
        }

        private BigInteger s() {
            BigInteger value = t();
            while (true) {
                if (take("+")) {
                    value = joined(value, t(), '+');
                } else if (take("-")) {
                    value = joined(value, t(), '-');
                } else {
                    return value;
                }
            }
        }

        private BigInteger t() {
            BigInteger value = p();
            while (true) {
                if (take("*")) {
                    value = joined(value, p(), '*');
                } else if (take("/")) {
                    value = joined(value, p(), '/');
                } else {
                    return value;
                }
            }
        }

        private static BigInteger joined(BigInteger a, BigInteger b, char sign) {
            if (a == null || b == null || sign == '/' && b.signum() == 0) {
                return null;
            }
            BigInteger value = sign == '+' ? a.add(b) : sign == '-' ? a.subtract(b)
                : sign == '*' ? a.multiply(b) : a.divide(b);
            return value.abs().compareTo(BigInteger.TEN.pow(12)) > 0 ? null : value;
        }

        private BigInteger p() {
            if (take("(")) {
                BigInteger value = e();
                if (!take(")")) {
                    throw new IllegalStateException("no ) in " + tokens);
                }
                return value;
            }
            String token = tokens.get(at++);
            return names.containsKey(token) ? BigInteger.valueOf(names.get(token)) : new BigInteger(token);
        }
    }
}
