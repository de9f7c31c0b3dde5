import java.util.ArrayList;
import java.util.Arrays;
import java.util.HashSet;
import java.util.List;
import java.util.Map;
import java.util.Random;
import java.util.Set;
import java.util.TreeMap;
import java.util.regex.Matcher;
import java.util.regex.Pattern;

/** Promises 3 to 5, 38: TEXTs by chance, whole and broken, against the grammar told once more. */
public final class GrammarTest {
    private static final List<String> RULES = Arrays.asList("burn", "glow", "recall");
    private static final List<String> NAMES = Arrays.asList("left", "lit", "junes", "windy", "top", "low", "hour");
    private static final List<String> LINES =
        Arrays.asList("man", "june", "light", "blow", "lend", "draft", "seed", "law");
    private static final Set<String> LANGUAGE = new HashSet<>(Arrays.asList("or", "and", "not"));
    private static final String[] ANY = {
        "man", "june", "light", "blow", "lend", "draft", "seed", "law", "burn", "glow", "recall", "left", "lit", "junes",
        "windy", "top", "low", "hour", "or", "and", "not", "p", "q", "r", "u", "v", "zzzzzz", "zzzzzzz", "recalls", "0", "1",
        "2", "59", "60", "61", "99", "100", "101", "9999", "10000", "99999", "100000", "00000000000007",
        "99999999999999999999", ";", "(", ")", "<", "<=", "=", "<>", ">=", ">", "+", "-", "*", "/", ",", "P", "\t", "\u00e9",
        "\0", "!", "< =", "=<"
    };

    private static final String[] NUMBERS = {
        "0", "1", "2", "3", "12", "59", "60", "61", "99", "100", "101", "9999", "10000", "99999", "100000", "007"
    };
    private static final Pattern TOKEN = Pattern.compile("[a-z]+|[0-9]+|[<>]=|<>|(?s:.)");

    static {
        LANGUAGE.addAll(RULES);
        LANGUAGE.addAll(NAMES);
        LANGUAGE.addAll(LINES);
    }

    public static void main(String[] args) {
        Random r = new Random(20);
        Map<String, Integer> found = new TreeMap<>();
        for (int k = 0; k < 40000; k++) {
            String text = broken(r, whole(r), r.nextInt(4));
            if (text.length() <= 700) {
                Reader want = new Reader(text);
                compare(text, want);
                found.merge(want.fault + want.why, 1, Integer::sum);
            }
        }
        Check.due("all kinds of FAULTS came: " + found, found.size(), 20);
        Check.finish();
    }

    private static void compare(String text, Reader want) {
        BurntEnds x = new BurntEnds();
        Check.due("LINES of: " + text, Check.text(x, text), want.fault == 0 ? want.lines : -1);
        Check.due("FAULT of: " + text, x.fault(0), want.fault);
        Check.due("place in: " + text, x.fault(1), want.fault == 0 ? -1 : want.place);
        int[] counts = {want.people.size(), want.junes.size(), want.lights, want.blows, want.knots};
        for (int what = 0; what < counts.length; what++) {
            Check.due("count " + what + " of: " + text, x.count(what), want.fault == 0 ? counts[what] : 0);
        }
        for (int man = 0; man < want.people.size() && want.fault == 0; man++) {
            Check.due("named in: " + text, x.named(Check.letters(want.people.get(man))), man);
            Check.due("INCHES in: " + text, Check.man(x, man, 0), want.inches.get(man));
        }
    }

    /** Near the limits: many of each kind, long laws, deep parentheses. */
    private static List<String> whole(Random r) {
        List<String> words = new ArrayList<>();
        if (r.nextInt(3) > 0) {
            split(Model.random(r).words(), words);
        } else {
            int people = 1 + r.nextInt(7);
            for (int man = 0; man < people; man++) {
                split("man " + Model.name(man) + " " + (1 + r.nextInt(60)) + ";", words);
            }
            String[] kinds = {"june", "light", "blow", "lend"};
            String kind = kinds[r.nextInt(4)];
            for (int k = r.nextInt(16); k > 0; k--) {
                String one = Model.name(r.nextInt(people));
                split(kind.equals("lend") ? "lend " + one + " " + Model.name(r.nextInt(people)) + ";"
                    : kind.equals("june") ? "june " + one + " " + r.nextInt(62) + ";"
                    : kind + " " + one + " " + r.nextInt(2) + " " + r.nextInt(101) + ";", words);
            }
            for (int k = r.nextInt(4); k > 0; k--) {
                split("law " + RULES.get(r.nextInt(3)) + " " + longLaw(r) + ";", words);
            }
        }
        return words;
    }

    private static String longLaw(Random r) {
        StringBuilder law = new StringBuilder();
        int deep = r.nextInt(10);
        for (int k = 0; k < deep; k++) {
            law.append(r.nextInt(3) == 0 ? "not(" : "(");
        }
        int parts = r.nextInt(30);
        for (int k = 0; k < parts; k++) {
            law.append(Model.expression(r, 0)).append(r.nextBoolean() ? " or " : " and ");
            k += 3;
        }
        law.append("1");
        for (int k = 0; k < deep; k++) {
            law.append(")");
        }
        return law.toString();
    }

    private static void split(String text, List<String> words) {
        Matcher m = TOKEN.matcher(text);
        while (m.find()) {
            if (!m.group().equals(" ")) {
                words.add(m.group());
            }
        }
    }

    private static String broken(Random r, List<String> words, int times) {
        for (int k = 0; k < times && !words.isEmpty(); k++) {
            int at = r.nextInt(words.size());
            switch (r.nextInt(12)) {
                case 0:
                    words.remove(at);
                    break;
                case 1:
                    words.add(at, ANY[r.nextInt(ANY.length)]);
                    break;
                case 2:
                    words.set(at, words.get(r.nextInt(words.size())));
                    break;
                case 3:
                    words.subList(at, words.size()).clear();
                    break;
                case 4:
                    words.addAll(at, new ArrayList<>(words.subList(at, Math.min(words.size(), at + 6))));
                    break;
                case 5:
                    words.set(at, ANY[r.nextInt(ANY.length)]);
                    break;
                default:
                    alike(r, words, at);
            }
        }
        StringBuilder text = new StringBuilder();
        for (String word : words) {
            boolean apart = text.length() > 0 && r.nextInt(400) > 0
                && Character.isLetterOrDigit(text.charAt(text.length() - 1)) && Character.isLetterOrDigit(word.charAt(0));
            text.append(apart ? r.nextInt(9) == 0 ? "\n" : " " : r.nextInt(12) == 0 ? "  " : "").append(word);
        }
        return text.append(r.nextInt(5) == 0 ? "\n " : "").toString();
    }

    /** Another word of the same kind in its place, or a whole LINE again. */
    private static void alike(Random r, List<String> words, int at) {
        String word = words.get(at);
        if (word.matches("[0-9]+")) {
            words.set(at, NUMBERS[r.nextInt(NUMBERS.length)]);
        } else if (word.length() == 1 && Character.isLetter(word.charAt(0))) {
            words.set(at, Model.name(r.nextInt(7)));
        } else {
            int end = words.subList(at, words.size()).indexOf(";") + at;
            int start = words.subList(0, at).lastIndexOf(";") + 1;
            words.addAll(new ArrayList<>(words.subList(start, Math.max(start, end + 1))));
        }
    }

    private static final class Stop extends RuntimeException {
        private static final long serialVersionUID = 1;
    }

    /** Goes down the grammar, a method for each of its letters. */
    private static final class Reader {
        final List<String> people = new ArrayList<>();
        final List<Integer> inches = new ArrayList<>();
        final Set<String> junes = new HashSet<>();
        private final Set<String> lends = new HashSet<>();
        private final Set<String> once = new HashSet<>();
        int lights;
        int blows;
        int knots;
        int lines;
        int fault;
        int place;
        String why = "";
        private final String text;
        private int open;
        /** The TOKEN that comes; "" behind the last one. */
        private String token = "";
        private int at;

        Reader(String all) {
            text = all;
            try {
                next();
                while (!token.isEmpty()) {
                    line();
                    must(token.equals(";"), 1);
                    next();
                    lines++;
                }
            } catch (Stop stop) {
                place = at;
                why = why();
            }
        }

        private String why() {
            if (fault == 1) {
                return "";
            }
            if (knots == 65) {
                return isNumber() ? " at the 65th, a number" : " at the 65th KNOT";
            }
            return " at " + (isNumber() ? "a number" : isW() ? "a name" : token);
        }

        private void must(boolean is, int what) {
            if (!is) {
                fault = what;
                throw new Stop();
            }
        }

        private void next() {
            at += token.length();
            while (at < text.length() && (text.charAt(at) == ' ' || text.charAt(at) == '\n')) {
                at++;
            }
            Matcher m = TOKEN.matcher(text);
            token = m.find(at) ? m.group() : "";
        }

        private boolean isNumber() {
            return token.matches("[0-9]+");
        }

        private boolean isW() {
            return token.matches("[a-z]{1,6}") && !LANGUAGE.contains(token);
        }

        private int number(int least, int most) {
            must(isNumber(), 1);
            java.math.BigInteger value = new java.math.BigInteger(token);
            must(value.bitLength() < 31 && value.intValue() >= least && value.intValue() <= most, 2);
            return value.intValue();
        }

        private String person() {
            must(isW(), 1);
            must(people.contains(token), 4);
            String name = token;
            next();
            return name;
        }

        private void line() {
            must(LINES.contains(token), 1);
            String kind = token;
            switch (kind) {
                case "man":
                    man();
                    break;
                case "june":
                    june();
                    break;
                case "light":
                    must(lights++ < 12, 2);
                    deed();
                    break;
                case "blow":
                    must(blows++ < 8, 2);
                    deed();
                    break;
                case "lend":
                    lend();
                    break;
                case "law":
                    next();
                    must(RULES.contains(token), 1);
                    must(once.add(token), 3);
                    next();
                    e();
                    break;
                default:
                    must(once.add(kind), 3);
                    next();
                    number(0, kind.equals("seed") ? 99999 : 100);
                    next();
            }
        }

        private void man() {
            must(people.size() < 6, 2);
            next();
            must(isW(), 1);
            must(!people.contains(token), 3);
            String name = token;
            next();
            inches.add(number(1, 60));
            people.add(name);
            next();
        }

        private void june() {
            must(junes.size() < 12, 2);
            next();
            String name = person();
            must(junes.add(name + " " + number(0, 59)), 3);
            next();
        }

        private void deed() {
            next();
            person();
            number(0, 1);
            next();
            number(0, 99);
            next();
        }

        private void lend() {
            must(lends.size() < 8, 2);
            next();
            String lender = person();
            must(isW(), 1);
            must(people.contains(token), 4);
            must(!lender.equals(token), 5);
            must(lends.add(lender + " " + token), 3);
            next();
        }

        private void knot() {
            knots++;
            must(knots <= 64, 2);
            next();
        }

        private void e() {
            a();
            while (token.equals("or")) {
                knot();
                a();
            }
        }

        private void a() {
            b();
            while (token.equals("and")) {
                knot();
                b();
            }
        }

        private void b() {
            if (token.equals("not")) {
                knot();
                b();
            } else {
                s();
                if (Arrays.asList("<", "<=", "=", "<>", ">=", ">").contains(token)) {
                    knot();
                    s();
                }
            }
        }

        private void s() {
            t();
            while (token.equals("+") || token.equals("-")) {
                knot();
                t();
            }
        }

        private void t() {
            p();
            while (token.equals("*") || token.equals("/")) {
                knot();
                p();
            }
        }

        private void p() {
            if (token.equals("(")) {
                must(open < 8, 2);
                open++;
                next();
                e();
                must(token.equals(")"), 1);
                open--;
                next();
            } else if (NAMES.contains(token)) {
                knot();
            } else {
                number(0, 9999);
                knot();
            }
        }
    }
}
