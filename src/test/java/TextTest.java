/** Promises 1 to 5: a new object, the TAPE, the TEXT and its FAULTS, names. */
public final class TextTest {
    public static void main(String[] args) {
        newObject();
        tape();
        faultStays();
        goodTexts();
        strangeTokens();
        tooMuch();
        toldAlready();
        people();
        grammar();
        knots();
        names();
        textBeginsAnew();
        Check.finish();
    }

    private static void fault(String text, int what, int place) {
        Check.fault(text, what, place);
    }

    private static void good(String text, int lines) {
        Check.good(text, lines);
    }

    private static void newObject() {
        BurntEnds x = new BurntEnds();
        for (int what = 0; what <= 14; what++) {
            Check.due("new count(" + what + ")", x.count(what), 0);
        }
        Check.due("new text(1)", x.text(1), -2);
        Check.due("new fault(0)", x.fault(0), 0);
        Check.due("new fault(1)", x.fault(1), -1);
        Check.due("new named", x.named(Check.letters("ann")), -1);
        Check.due("new text(0)", x.text(0), 0);
        Check.due("NONE", BurntEnds.NONE, -1);
    }

    private static void tape() {
        BurntEnds x = new BurntEnds();
        for (int k = 1; k <= 35; k++) {
            Check.due("feed " + k, x.feed(0x20202020, 0x20202020, 0x20202020, 0x20202020, 0x20202020), 20 * k);
        }
        Check.due("feed 36", x.feed(0x61616161, 0, 0, 0, 0), -1);
        Check.due("text(701)", x.text(701), -2);
        Check.due("text(-1)", x.text(-1), -2);
        Check.due("text(min)", x.text(Integer.MIN_VALUE), -2);
        Check.due("feed still full", x.feed(0, 0, 0, 0, 0), -1);
        Check.due("text(700)", x.text(700), 0);
        Check.due("feed when empty", x.feed(0x6d616e20, 0x613b0000, 0, 0, 0), 20);
        Check.due("bytes behind the first n are gone", x.text(0), 0);
        Check.due("text(1)", x.text(1), -2);
        // the highest byte first, a negative number too
        x.feed(0x6d616e20, 0x6120353b, 0xff000000, 0, 0);
        Check.due("text(8)", x.text(8), 1);
        x.feed(0x6d616e20, 0x6120353b, 0xff000000, 0, 0);
        Check.due("text(9)", x.text(9), -1);
        Check.due("a byte of 255", x.fault(1), 8);
    }

    private static void faultStays() {
        BurntEnds x = Check.told("man ann 6;light ann 0 0;");
        x.go(2);
        x.light(0, 1);
        x.see(1, 0, 1, true);
        x.keep();
        String ahead = Check.state(x);
        Check.due("a FAULT", Check.text(x, "man bo 7;man bo 8;"), -1);
        Check.due("its kind", x.fault(0), 3);
        Check.due("its place", x.fault(1), 13);
        Check.due("all else stays", Check.state(x).equals(ahead), true);
        Check.due("text(1): the TAPE is empty", x.text(1), -2);
        Check.due("-2 keeps the FAULT", x.fault(0), 3);
        Check.due("undo stays", x.undo(), 0);
        Check.due("the IMAGE stays", x.back(), 2);
        Check.due("named stays", x.named(Check.letters("ann")), 0);
        Check.due("none new", x.named(Check.letters("bo")), -1);
        Check.due("fault(2)", x.fault(2), -1);
        Check.due("fault(-1)", x.fault(-1), -1);
        Check.due("text(0)", x.text(0), 0);
        Check.due("no FAULT any more", x.fault(0), 0);
        Check.due("no place", x.fault(1), -1);
    }

    private static void goodTexts() {
        good("", 0);
        good("  \n ", 0);
        good("man a 1;", 1);
        good("man a 60;man abcdef 1;", 2);
        good("man a5;june a4;", 2);
        good("man\na\n5\n;\n", 1);
        good("man a 007;", 1);
        good("man mann 1;man ma 2;man no 3;man ors 4;man lefts 5;man w 6;", 6);
        good("man a 5;light a 0 99;light a 1 0;light a 0 99;blow a 1 99;", 5);
        good("draft 0;seed 99999;", 2);
        good("draft 100;seed 0;", 2);
        good("law glow 9999;law burn left;law recall not not 1;", 3);
        good("man a 5;june a 59;", 2);
        good("man a 5;man b 5;lend a b;lend b a;", 4);
        good("law burn ((((((((1))))))));", 1);
        good("law burn ((((((((1))))))))+((((((((1))))))));", 1);
        good("law burn 1<=2;", 1);
        good("law burn 1< 2;law glow 1<>2;law recall 1>=2;", 3);
        good("law burn(1)and(2);", 1);
        good("law burn 1and 2or 3;", 1);
        good("law burn 00000000000000000000000009999;", 1);
    }

    private static void strangeTokens() {
        fault("x", 1, 0);
        fault("ann 5;", 1, 0);
        fault(";", 1, 0);
        fault("man a 5;;", 1, 8);
        fault("man", 1, 3);
        fault("man ", 1, 4);
        fault("man a", 1, 5);
        fault("man a 5", 1, 7);
        fault("man a 5  \n", 1, 10);
        fault("man 5 a;", 1, 4);
        fault("man;", 1, 3);
        fault("man a;", 1, 5);
        fault("june;", 1, 4);
        fault("light;", 1, 5);
        fault("blow;", 1, 4);
        fault("lend;", 1, 4);
        fault("law;", 1, 3);
        fault("man a 5;light a;", 1, 15);
        fault("man a 5;blow a 1;", 1, 16);
        fault("man abcdefg 5;", 1, 4);
        fault("man burn 5;", 1, 4);
        fault("man or 5;", 1, 4);
        fault("man junes 5;", 1, 4);
        fault("man a 5 6;", 1, 8);
        fault("man a b;", 1, 6);
        fault("man A 5;", 1, 4);
        fault("man a 5,", 1, 7);
        fault("man\ta 5;", 1, 3);
        fault("man a 5;\r", 1, 8);
        fault("mann a 5;", 1, 0);
        fault("manmanman a 5;", 1, 0);
        fault("man a -5;", 1, 6);
        fault("june 1 1;", 1, 5);
        fault("man a 5;june a;", 1, 14);
        fault("man a 5;light a 0;", 1, 17);
        fault("man a 5;lend a 0;", 1, 15);
        fault("man a 5;lend a;", 1, 14);
        fault("draft a;", 1, 6);
        fault("draft;", 1, 5);
        fault("seed;", 1, 4);
        fault("law 5;", 1, 4);
        fault("law left 1;", 1, 4);
        fault("law burn;", 1, 8);
        fault("law burn a;", 1, 9);
        fault("man a 5;law burn a;", 1, 17);
        fault("law burn 1", 1, 10);
        fault("burn 1;", 1, 0);
        fault("left;", 1, 0);
        fault("man a 5;man b 6;\u00e9", 1, 16);
        // of one place the least: what can't stand there is not too much there
        fault("draft 1;draft", 3, 8);
        fault("draft 1;seed draft 1;", 1, 13);
    }

    private static void tooMuch() {
        fault("man a 0;", 2, 6);
        fault("man a 61;", 2, 6);
        fault("man a 99999999999999999999999;", 2, 6);
        fault("man a 4294967297;", 2, 6);
        fault("man a 5;june a 60;", 2, 15);
        fault("man a 5;light a 2 5;", 2, 16);
        fault("man a 5;light a 1 100;", 2, 18);
        fault("man a 5;blow a 2 5;", 2, 15);
        fault("man a 5;blow a 1 100;", 2, 17);
        fault("draft 101;", 2, 6);
        fault("seed 100000;", 2, 5);
        fault("law burn 10000;", 2, 9);
        String six = "man a 1;man b 1;man c 1;man d 1;man e 1;man f 1;";
        good(six, 6);
        fault(six + "man a 1;", 2, six.length());
        fault(six + "man", 2, six.length());
        manyLines("june a ", true, 12, "man a 5;");
        manyLines("light a 0 ", true, 12, "man a 5;");
        manyLines("blow a 1 ", true, 8, "man a 5;");
        String lends = "man a 1;man b 1;man c 1;man d 1;"
            + "lend a b;lend a c;lend a d;lend b a;lend b c;lend b d;lend c a;lend c b;";
        good(lends, 12);
        fault(lends + "lend c d;", 2, lends.length());
        fault(lends + "lend a b;", 2, lends.length());
        fault("law burn (((((((((1)))))))));", 2, 17);
        fault("law burn ((((((((1+(2)))))))));", 2, 19);
        good("law burn ((((((((1)+(2))))))));", 1);
    }

    private static void manyLines(String line, boolean numbered, int most, String ahead) {
        StringBuilder all = new StringBuilder(ahead);
        for (int k = 0; k < most; k++) {
            all.append(line).append(k).append(';');
        }
        good(all.toString(), most + 1);
        fault(all + line + most + ";", 2, all.length());
    }

    private static void toldAlready() {
        fault("man a 5;man a 99;", 3, 12);
        fault("man a 5;june a 4;june a 04;", 3, 24);
        good("man a 5;man b 5;june a 4;june b 4;", 4);
        fault("man a 5;man b 5;lend a b;lend a b;", 3, 32);
        fault("draft 0;draft 0;", 3, 8);
        fault("seed 0;seed 1;", 3, 7);
        fault("law burn 1;law burn", 3, 15);
        fault("law glow 1;law burn 1;law glow 1;", 3, 26);
        fault("law recall 1;law recall 1;", 3, 17);
    }

    private static void people() {
        fault("june a 0;", 4, 5);
        fault("light a 0 0;man a 5;", 4, 6);
        fault("blow b 0 0;", 4, 5);
        fault("lend a a;", 4, 5);
        fault("man a 5;lend a b;", 4, 15);
        fault("man a 5;lend b a;", 4, 13);
        fault("man a 5;lend a a;", 5, 15);
        fault("man ab 5;june a 0;", 4, 14);
    }

    private static void grammar() {
        fault("law burn 1<2<3;", 1, 12);
        fault("law burn 1=2<>3;", 1, 12);
        fault("law burn 1<2+3<4;", 1, 14);
        fault("law burn 1<2*3<4;", 1, 14);
        fault("law burn not 1+2<3-4>5;", 1, 20);
        fault("law burn 1 and 2<(3<4)<5;", 1, 22);
        good("law burn (1<2)<3;", 1);
        good("law burn 1<(2<3) and 4=5;", 1);
        good("law burn 1<2 and 3<4 or 5<6;", 1);
        good("law burn not 1<2;", 1);
        fault("law burn 1<not 2;", 1, 11);
        fault("law burn 1+not 2;", 1, 11);
        fault("law burn 1 not 2;", 1, 11);
        good("law burn 1 and not 2 or not (not not 3);", 1);
        fault("law burn +1;", 1, 9);
        fault("law burn 1+-1;", 1, 11);
        fault("law burn 1 2;", 1, 11);
        fault("law burn (1;", 1, 11);
        fault("law burn 1);", 1, 10);
        fault("law burn ();", 1, 10);
        fault("law burn (1 2);", 1, 12);
        fault("law burn 1=<2;", 1, 11);
        fault("law burn 1><2;", 1, 11);
        fault("law burn 1=>2;", 1, 11);
        fault("law burn 1< =2;", 1, 12);
        fault("law burn 1 and;", 1, 14);
        fault("law burn not;", 1, 12);
        fault("law burn 1 man;", 1, 11);
        fault("law burn 1&2;", 1, 10);
        fault("law burn 1+", 1, 11);
        fault("law burn (1", 1, 11);
    }

    private static void knots() {
        StringBuilder sum = new StringBuilder("law burn 1");
        for (int k = 0; k < 31; k++) {
            sum.append("+1");
        }
        BurntEnds x = Check.told(sum + ";law glow 1;");
        Check.due("count(4)", x.count(4), 64);
        fault(sum + ";law glow (1+1);", 2, sum.length() + 12);
        fault(sum + "+1+1;", 2, sum.length() + 1);
        fault(sum + ";law glow not 1;", 2, sum.length() + 14);
        fault(sum + ";law glow not not 1;", 2, sum.length() + 14);
        // one that can't stand there is the lesser FAULT
        fault(sum + ";law glow 1 1;", 1, sum.length() + 12);
        fault(sum + ";law glow 1+", 2, sum.length() + 11);
        Check.due("'(' is no KNOT", Check.told("law burn ((1)+(left));").count(4), 3);
        Check.due("not and signs are", Check.told("law burn not 1<=2;law recall 1 or 0;").count(4), 7);
        // the highest row of signs that can wait at once
        StringBuilder nots = new StringBuilder("law burn ((((((((");
        for (int k = 0; k < 63; k++) {
            nots.append("not ");
        }
        Check.due("63 nots", Check.told("man a 1;" + nots + "1))))))));").law(0, 0), 0);
        fault(nots + "not 1))))))));", 2, nots.length() + 4);
    }

    private static void names() {
        BurntEnds x = Check.told("man a 1;man abcdef 2;man zzzzzz 3;man b 4;");
        Check.due("a", x.named(1 << 25), 0);
        Check.due("abcdef", x.named(Check.letters("abcdef")), 1);
        Check.due("zzzzzz", x.named(Check.letters("zzzzzz")), 2);
        Check.due("b", x.named(Check.letters("b")), 3);
        Check.due("c", x.named(Check.letters("c")), -1);
        Check.due("abcde", x.named(Check.letters("abcde")), -1);
        Check.due("0", x.named(0), -1);
        Check.due("1", x.named(1), -1);
        Check.due("-1", x.named(-1), -1);
        Check.due("text(0)", x.text(0), 0);
        Check.due("a is forgotten", x.named(1 << 25), -1);
    }

    private static void textBeginsAnew() {
        BurntEnds x = Check.told("man a 9;man b 9;june a 1;light a 0 0;light a 0 0;lend a b;draft 50;law burn 1;");
        x.go(3);
        x.light(1, 0);
        x.see(1, 0, 0, true);
        x.strike(0);
        x.known(1);
        x.keep();
        Check.due("text", Check.text(x, "man c 4;"), 1);
        int[] want = {1, 0, 0, 0, 0, 0, 4, 0, 0, 0, 0, 0, 0, 0, 0};
        for (int what = 0; what < want.length; what++) {
            Check.due("anew count(" + what + ")", x.count(what), want[what]);
        }
        Check.due("no IMAGE", x.back(), -1);
        Check.due("nothing to undo", x.undo(), -1);
        Check.due("known by all", x.see(1, 0, 0, true), 0);
        Check.due("by all", x.count(13), 1);
        Check.due("no law", x.law(0, 0), Long.MIN_VALUE);
        Check.due("no lender", x.lenders(0), 0);
        Check.due("no JUNE", x.june(0, 1), 0);
        Check.due("no draft", x.calm(1, 0), 1);
    }
}
