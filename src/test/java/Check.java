import java.util.NoSuchElementException;

/** What all tests use: feeding texts, and comparing answers with those that are due. */
final class Check {
    private static int wrong = 0;
    private static int done = 0;

    private Check() {
    }

    static void due(String what, long got, long want) {
        done++;
        if (got != want) {
            wrong++;
            System.out.println(what + " answered " + got + ", due is " + want);
        }
    }

    static void due(String what, boolean got, boolean want) {
        due(what, got ? 1 : 0, want ? 1 : 0);
    }

    static void finish() {
        System.out.println(done + " answers, " + wrong + " not as due");
        if (wrong != 0) {
            System.exit(1);
        }
    }

    /** Feeds a text (signs 0 .. 255), filled up with blanks. */
    static void feed(BurntEnds x, String text) {
        for (int at = 0; at < text.length(); at += 20) {
            int[] fours = new int[5];
            for (int k = 0; k < 20; k++) {
                int sign = at + k < text.length() ? text.charAt(at + k) : ' ';
                fours[k / 4] = fours[k / 4] << 8 | sign;
            }
            x.feed(fours[0], fours[1], fours[2], fours[3], fours[4]);
        }
    }

    static int text(BurntEnds x, String text) {
        feed(x, text);
        return x.text(text.length());
    }

    /** A new object with a text that must be without a FAULT. */
    static BurntEnds told(String text) {
        BurntEnds x = new BurntEnds();
        int lines = text(x, text);
        if (lines < 0) {
            due("FAULT " + x.fault(0) + " at " + x.fault(1) + " of: " + text, lines, 0);
        }
        return x;
    }

    /** A text without a FAULT: how many LINES. */
    static void good(String text, int lines) {
        BurntEnds x = new BurntEnds();
        due("text of: " + text, text(x, text), lines);
        due("fault(0) of: " + text, x.fault(0), 0);
        due("fault(1) of: " + text, x.fault(1), -1);
    }

    static void fault(String text, int what, int place) {
        BurntEnds x = new BurntEnds();
        due("text of: " + text, text(x, text), -1);
        due("fault(0) of: " + text, x.fault(0), what);
        due("fault(1) of: " + text, x.fault(1), place);
    }

    /** A text whose FAULT stands behind the '^', which is no part of it. */
    static void broken(int what, String marked) {
        int place = marked.indexOf('^');
        fault(marked.substring(0, place) + marked.substring(place + 1), what, place);
    }

    static int letters(String name) {
        int packed = 0;
        for (int k = 0; k < 6; k++) {
            packed = packed << 5 | (k < name.length() ? name.charAt(k) - 'a' + 1 : 0);
        }
        return packed;
    }

    /** The answer of man(), -101 for IndexOutOfBoundsException, -102 for NoSuchElementException. */
    static int man(BurntEnds x, int man, int what) {
        try {
            return x.man(man, what);
        } catch (IndexOutOfBoundsException e) {
            return -101;
        } catch (NoSuchElementException e) {
            return -102;
        }
    }

    /** All that can be read of the state without changing it, as one text. */
    static String state(BurntEnds x) {
        StringBuilder all = new StringBuilder();
        for (int what = 0; what <= 14; what++) {
            all.append(x.count(what)).append(' ');
        }
        for (int man = 0; man < x.count(0); man++) {
            for (int what = 0; what <= 7; what++) {
                all.append(man(x, man, what)).append(' ');
            }
            for (int inch = 0; inch < 60; inch++) {
                all.append(x.june(man, inch));
            }
            all.append(x.lenders(man)).append(' ').append(x.lengths(man)).append(' ');
            for (int rule = 0; rule < 3; rule++) {
                all.append(x.law(rule, man)).append(' ');
            }
        }
        return all.toString();
    }
}
