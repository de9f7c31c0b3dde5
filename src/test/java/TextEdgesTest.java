/**
 * The edges that the Terms name of a TEXT and of its FAULTS, and promises 1 to 5: of each sentence the last
 * input that is taken and the first that isn't. A '^' stands ahead of the place of the FAULT.
 */
public final class TextEdgesTest {
    private static final String[] LANGUAGE = {
        "man", "june", "light", "blow", "lend", "draft", "seed", "law", "burn", "glow", "recall",
        "left", "lit", "junes", "windy", "top", "low", "hour", "or", "and", "not"
    };
    private static final String[] SIGNS = {"<", "<=", "=", "<>", ">=", ">", "+", "-", "*", "/"};
    private static final String PAIR = "man a 9;man b 9;";

    public static void main(String[] args) {
        namesOfOneToSixLetters();
        namesOutOfTheLanguage();
        bytesThatAreTokens();
        bytesBesideTokens();
        blanks();
        digits();
        signsOfTwoBytes();
        inches();
        people();
        junes();
        lights();
        blows();
        lends();
        draft();
        seed();
        rules();
        numbersOfLaws();
        openParentheses();
        knots();
        knotsOfEachKind();
        oneComparison();
        notAheadOfComparisons();
        endOfTheText();
        firstFaultAlongTheText();
        ofOnePlaceTheLeast();
        toldAhead();
        feed();
        textOfSoManyBytes();
        bytesBehindAreNone();
        textsBehindTexts();
        textsBehindFaults();
        textOfNone();
        faultKeepsAllElse();
        faultOfTheLatest();
        named();
        Check.finish();
    }

    // ---- the Terms

    /** "W: one of 1 .. 6 letters"; "a word of more than 6 letters that is none of the language, too" */
    private static void namesOfOneToSixLetters() {
        Check.broken(1, "man ^1;");
        Check.good("man z 1;", 1);
        Check.good("man abcdef 1;", 1);
        Check.broken(1, "man ^abcdefg 1;");
        Check.broken(1, "man ^abcdefabcdefabcdef 1;");
        Check.broken(1, "man ^recalls 1;");
        Check.broken(1, "^recalls 1;");
        Check.broken(1, "law ^recalls 1;");
        Check.broken(1, "man abcdef 1;june ^abcdefg 0;");
        Check.broken(1, "law burn ^abcdefg;");
    }

    /** "none of those of the language" */
    private static void namesOutOfTheLanguage() {
        for (String word : LANGUAGE) {
            Check.broken(1, "man ^" + word + " 1;");
            Check.broken(1, "man a 1;june ^" + word + " 1;");
            Check.broken(1, "man a 1;light ^" + word + " 0 0;");
            Check.broken(1, "man a 1;blow ^" + word + " 0 0;");
            Check.broken(1, "man a 1;lend ^" + word + " a;");
            Check.broken(1, "man a 1;lend a ^" + word + ";");
            if (word.length() < 6) {
                Check.good("man " + word + "x 1;", 1);
                Check.good("man x" + word + " 1;", 1);
            }
            Check.good("man " + word.charAt(0) + " 1;", 1);
        }
    }

    /** Which bytes alone are blanks, and which are a TOKEN that can't stand there. */
    private static void bytesThatAreTokens() {
        for (int sign = 0; sign < 256; sign++) {
            String text = String.valueOf((char) sign);
            if (sign == 10 || sign == 32) {
                Check.good(text, 0);
            } else {
                Check.fault(text, 1, 0);
            }
        }
    }

    /** Each byte behind a number, a name, a part of E: what joins it, what parts it, what can't stand there. */
    private static void bytesBesideTokens() {
        for (int sign = 0; sign < 256; sign++) {
            boolean blank = sign == 10 || sign == 32;
            boolean digit = sign >= '0' && sign <= '9';
            boolean letter = sign >= 'a' && sign <= 'z';
            boolean joins = "+-*/<=>".indexOf(sign) >= 0;
            String number = "man a 1" + (char) sign + ";";
            if (blank || digit) {
                Check.good(number, 1);
            } else {
                Check.fault(number, 1, sign == ';' ? 8 : 7);
            }
            String name = "man a" + (char) sign + ";";
            if (blank || letter) {
                Check.fault(name, 1, 6);
            } else if (digit && sign > '0') {
                Check.good(name, 1);
            } else {
                Check.fault(name, digit ? 2 : 1, 5);
            }
            String law = "law burn 1 " + (char) sign + " 1;";
            if (joins) {
                Check.good(law, 1);
            } else {
                Check.fault(law, 1, blank || sign == ';' ? 13 : 11);
            }
        }
    }

    /** "Blanks 10, 32." */
    private static void blanks() {
        Check.good(" \n man \n a\n\n1 ; \n", 1);
        Check.good("man a1;june a0;", 2);
        Check.good("law burn(1)+left*2;", 1);
        Check.broken(1, "^ma n a 1;");
        Check.broken(1, "^mana 1;");
        Check.broken(1, "man a 1 ^2;");
        Check.broken(1, "law burn 1 ^2;");
        Check.broken(1, "man^\ta 1;");
        Check.broken(1, "man^\ra 1;");
        Check.broken(1, "man^\u000ba 1;");
        Check.broken(1, "man^\u00a0a 1;");
        Check.broken(1, "man^\u0000a 1;");
    }

    /** "N: digits." */
    private static void digits() {
        Check.good("man a 000000000000000000000000000000060;", 1);
        Check.broken(2, "man a ^000000000000000000000000000000000;");
        Check.broken(2, "man a ^000000000000000000000000000000061;");
        Check.broken(2, "man a ^4294967356;");
        Check.broken(2, "man a ^18446744073709551676;");
        Check.broken(1, "man a ^-1;");
        Check.broken(1, "man a ^+1;");
        Check.broken(1, "man a ^;");
    }

    /** "A = (or > behind <) right behind < or > belongs to it." */
    private static void signsOfTwoBytes() {
        for (String sign : SIGNS) {
            Check.good("law burn 1" + sign + "2;", 1);
            Check.good("law burn 1 " + sign + " 2;", 1);
        }
        Check.broken(1, "law burn 1 < ^= 2;");
        Check.broken(1, "law burn 1 > ^= 2;");
        Check.broken(1, "law burn 1 < ^> 2;");
        Check.broken(1, "law burn 1 =^< 2;");
        Check.broken(1, "law burn 1 =^> 2;");
        Check.broken(1, "law burn 1 =^= 2;");
        Check.broken(1, "law burn 1 >^< 2;");
        Check.broken(1, "law burn 1 >^> 2;");
        Check.broken(1, "law burn 1 <^< 2;");
        Check.broken(1, "law burn 1 <=^> 2;");
        Check.broken(1, "law burn 1 <>^= 2;");
        Check.broken(1, "law burn 1 >=^= 2;");
        Check.broken(1, "law burn 1 <^");
        Check.broken(1, "law burn 1 <=^");
    }

    /** "INCHES 1 .. 60" */
    private static void inches() {
        Check.broken(2, "man a ^0;");
        Check.due("1", Check.man(Check.told("man a 1;"), 0, 0), 1);
        Check.due("60", Check.man(Check.told("man a 60;"), 0, 0), 60);
        Check.broken(2, "man a ^61;");
    }

    /** "PEOPLE (man), at most 6 .. numbered from 0 on"; "a seventh man (at the word of the LINE)" */
    private static void people() {
        String five = "man a 1;man b 2;man c 3;man d 4;man e 5;";
        BurntEnds x = Check.told(five + "man f 6;");
        Check.due("six PEOPLE", x.count(0), 6);
        for (int man = 0; man < 6; man++) {
            Check.due("numbered as they come", x.named(Check.letters(String.valueOf((char) ('a' + man)))), man);
            Check.due("with the own INCHES", Check.man(x, man, 0), man + 1);
        }
        Check.broken(2, five + "man f 6;^man g 7;");
        Check.broken(2, five + "man f 6;^man a 0;");
        Check.broken(2, five + "man f 6;^man");
        for (char name = 'a'; name <= 'e'; name++) {
            Check.broken(3, five + "man ^" + name + " 6;");
        }
    }

    /** "june, at most 12: an inch 0 .. 59 of a PERSON is a JUNE (each once; one beyond the INCHES is never LEFT)" */
    private static void junes() {
        BurntEnds x = Check.told("man a 9;june a 0;june a 8;june a 9;june a 59;");
        Check.due("the first inch", x.june(0, 0), 2);
        Check.due("the last one", x.june(0, 8), 2);
        Check.due("the first beyond", x.june(0, 9), 1);
        Check.due("the last beyond", x.june(0, 59), 1);
        Check.due("two are LEFT", Check.man(x, 0, 5), 2);
        Check.due("four are told", x.count(1), 4);
        Check.broken(2, "man a 9;june a ^60;");
        Check.broken(3, "man a 9;june a 0;june a ^0;");
        Check.broken(3, "man a 9;june a 59;june a ^59;");
        Check.good(PAIR + "june a 0;june b 0;june a 1;", 5);
        String twelve = lines("june a ", 12);
        Check.due("twelve", Check.told(PAIR + twelve).count(1), 12);
        Check.broken(2, PAIR + twelve + "^june b 0;");
        Check.broken(2, PAIR + twelve + "^june a 0;");
    }

    /** "LIGHTS, at most 12: a PERSON, the TOP (0) or the LOW end (1), an HOUR 0 .. 99" */
    private static void lights() {
        Check.good("man a 9;light a 0 0;light a 1 99;light a 1 99;", 4);
        Check.broken(2, "man a 9;light a ^2 0;");
        Check.broken(2, "man a 9;light a 0 ^100;");
        Check.broken(2, "man a 9;light a 1 ^100;");
        String twelve = lines("light a 0 ", 12);
        Check.due("twelve", Check.told(PAIR + twelve).count(2), 12);
        Check.broken(2, PAIR + twelve + "^light b 0 0;");
        Check.good(PAIR + twelve + "blow b 0 0;", 15);
    }

    /** "BLOWS, at most 8, likewise." */
    private static void blows() {
        Check.good("man a 9;blow a 0 0;blow a 1 99;blow a 1 99;", 4);
        Check.broken(2, "man a 9;blow a ^2 0;");
        Check.broken(2, "man a 9;blow a 0 ^100;");
        Check.broken(2, "man a 9;blow a 1 ^100;");
        String eight = lines("blow a 0 ", 8);
        Check.due("eight", Check.told(PAIR + eight).count(3), 8);
        Check.broken(2, PAIR + eight + "^blow b 0 0;");
        Check.good(PAIR + eight + "light b 0 0;", 11);
    }

    /** "lend, at most 8: the first PERSON LENDS to the second one"; FAULTS 3 and 5 "at the second W" */
    private static void lends() {
        String four = "man a 1;man b 1;man c 1;man d 1;";
        String eight = "lend a b;lend a c;lend a d;lend b a;lend b c;lend b d;lend c a;lend c b;";
        BurntEnds x = Check.told(four + eight);
        Check.due("of a", x.lenders(0), 2 + 4);
        Check.due("of b", x.lenders(1), 1 + 4);
        Check.due("of c", x.lenders(2), 1 + 2);
        Check.due("of d", x.lenders(3), 1 + 2);
        Check.broken(2, four + eight + "^lend c d;");
        Check.broken(2, four + eight + "^lend a a;");
        Check.broken(5, four + "lend a ^a;");
        Check.broken(5, four + "lend b c;lend d ^d;");
        Check.broken(3, four + "lend a b;lend a ^b;");
        Check.good(four + "lend a b;lend b a;", 6);
    }

    /** "draft: of a hundred 0 .. 100 (0)"; told already "(at the word)" */
    private static void draft() {
        Check.due("none told", Check.told("man a 9;").calm(1, 0), 1);
        Check.due("0", Check.told("draft 0;").calm(1, 0), 1);
        Check.due("1", Check.told("draft 1;").calm(1, 0), 99);
        Check.due("99", Check.told("draft 99;").calm(1, 0), 1);
        Check.due("100", Check.told("draft 100;").calm(1, 0), 0);
        Check.broken(2, "draft ^101;");
        Check.broken(3, "draft 0;^draft 0;");
        Check.broken(3, "draft 5;man a 1;^draft 101;");
    }

    /** "seed: 0 .. 99999 (0)"; told already "(at the word)" */
    private static void seed() {
        Check.good("seed 0;", 1);
        Check.good("seed 99999;", 1);
        Check.broken(2, "seed ^100000;");
        Check.broken(3, "seed 0;^seed 0;");
        Check.broken(3, "seed 1;man a 1;^seed 100000;");
        Check.good("draft 1;seed 1;", 2);
    }

    /** "RULE: burn | glow | recall"; "a law of its RULE (at RULE)" */
    private static void rules() {
        Check.good("law burn 1;law glow 2;law recall 3;", 3);
        for (String rule : new String[] {"burn", "glow", "recall"}) {
            Check.broken(3, "law burn 1;law glow 2;law recall 3;law ^" + rule + " 4;");
            Check.broken(3, "law " + rule + " 0;law ^" + rule + " 0;");
        }
        for (String word : LANGUAGE) {
            if (!word.equals("burn") && !word.equals("glow") && !word.equals("recall")) {
                Check.broken(1, "law ^" + word + " 1;");
            }
        }
        Check.broken(1, "law ^a 1;");
        Check.broken(1, "law ^1;");
        Check.broken(1, "law burn^;");
    }

    /** "N of E 0 .. 9999" */
    private static void numbersOfLaws() {
        Check.due("0", Check.told("man a 1;law recall 0;").law(2, 0), 0);
        Check.due("9999", Check.told("man a 1;law recall 9999;").law(2, 0), 9999);
        Check.broken(2, "law recall ^10000;");
        Check.broken(2, "law recall 1+^10000;");
        Check.broken(2, "law recall not (^99999999999;");
    }

    /** "a ninth '(' open" */
    private static void openParentheses() {
        Check.good("law burn ((((((((1))))))));", 1);
        Check.broken(2, "law burn ((((((((^(1)))))))));");
        Check.good("law burn ((((((((1)+(2))))))))*((((((((3))))))));", 1);
        Check.broken(2, "law burn ((((((((1)+(^(2)))))))));");
        Check.good("law burn ((((((((1))))))));law glow ((((((((1))))))));", 2);
        Check.broken(2, "law burn not ((((((((not ^(1");
        Check.broken(1, "law burn ((((((((1^(2");
        Check.broken(1, "law burn ((((((((1)))))))^;");
        Check.broken(1, "law burn ((((((((1))))))))^);");
    }

    /** "a 65th KNOT of all E" */
    private static void knots() {
        String most = sum(32);
        Check.due("63", Check.told("law burn " + most + ";").count(4), 63);
        Check.due("64", Check.told("law burn " + most + ";law glow 1;").count(4), 64);
        Check.due("64 in one", Check.told("law burn not " + most + ";").count(4), 64);
        Check.broken(2, "law burn not " + most + "^+1;");
        Check.broken(2, "law burn " + most + "+^1;");
        Check.broken(2, "law burn " + most + ";law glow 1^+1;");
        Check.broken(2, "law burn " + most + ";law glow 1;law recall ^1;");
        String three = "law burn " + sum(11) + ";law glow " + sum(11) + ";law recall " + sum(11);
        Check.due("63 of three", Check.told(three + ";").count(4), 63);
        Check.broken(2, three + "+^1;");
        Check.due("none", Check.told("man a 1;").count(4), 0);
    }

    /** "(N, NAMES, signs, not, and, or: one each)": each as the 64th and as the 65th one. */
    private static void knotsOfEachKind() {
        String full = "law burn not " + sum(32) + ";law glow ";
        String one = "law burn " + sum(32) + ";law glow ";
        String two = "law burn not " + sum(31) + "+1";
        Check.due("full", Check.told(two + ";").count(4), 64);
        for (String part : new String[] {"0", "9999", "left", "lit", "junes", "windy", "top", "low", "hour", "not 1"}) {
            Check.broken(2, full + "^" + part + ";");
        }
        for (String part : new String[] {"0", "9999", "left", "lit", "junes", "windy", "top", "low", "hour"}) {
            Check.due(part, Check.told(one + part + ";").count(4), 64);
            Check.due("(" + part + ")", Check.told(one + "((" + part + "));").count(4), 64);
        }
        for (String sign : SIGNS) {
            Check.broken(2, one + "1^" + sign + "1;");
            Check.due(sign, Check.told("law glow 1" + sign + "1;").count(4), 3);
        }
        Check.broken(2, one + "1 ^and 1;");
        Check.broken(2, one + "1 ^or 1;");
        Check.broken(2, one + "not ^1;");
        Check.broken(2, one + "not ^not 1;");
        Check.due("and", Check.told("law glow 1 and 1;").count(4), 3);
        Check.due("or", Check.told("law glow 1 or 1;").count(4), 3);
        Check.due("not", Check.told("law glow not 1;").count(4), 2);
    }

    /** "C: S [ ( < | .. ) S ]": one comparison at most, but in '(' */
    private static void oneComparison() {
        String[] compares = {"<", "<=", "=", "<>", ">=", ">"};
        for (String first : compares) {
            for (String second : compares) {
                Check.broken(1, "law burn 1 " + first + " 2 ^" + second + " 3;");
                Check.good("law burn (1 " + first + " 2) " + second + " 3;", 1);
                Check.good("law burn 1 " + first + " (2 " + second + " 3);", 1);
                Check.good("law burn 1 " + first + " 2 and 2 " + second + " 3;", 1);
            }
        }
    }

    /** "B: not B | C": not stands ahead of a comparison alone, any number of them */
    private static void notAheadOfComparisons() {
        Check.good("law burn not not not 1;", 1);
        Check.good("law burn 1 or not 1 and not 1 < 2;", 1);
        Check.broken(1, "law burn 1 < ^not 2;");
        Check.broken(1, "law burn 1 + ^not 2;");
        Check.broken(1, "law burn 1 * ^not 2;");
        Check.good("law burn 1 * (not 2);", 1);
        Check.broken(1, "law burn 1 ^not 2;");
        Check.broken(1, "law burn not ^and 1;");
        Check.broken(1, "law burn not ^;");
    }

    /** "(the length, if more must come)": behind each TOKEN of a TEXT but the ';' */
    private static void endOfTheText() {
        String words = "man a 9 ; man b 9 ; june a 1 ; light a 0 0 ; blow a 1 1 ; lend a b ; draft 5 ; seed 7 ; "
            + "law burn not ( 1 + 2 ) * 3 <= left and 1 or 0 ; law glow 1 < 2 - 3 / 4 ;";
        StringBuilder ahead = new StringBuilder();
        int lines = 0;
        for (String token : words.split(" ")) {
            ahead.append(token);
            if (token.equals(";")) {
                lines++;
                Check.good(ahead.toString(), lines);
                Check.good(ahead + " \n", lines);
            } else {
                Check.fault(ahead.toString(), 1, ahead.length());
                Check.fault(ahead + " \n", 1, ahead.length() + 2);
            }
            ahead.append(' ');
        }
        Check.good("", 0);
    }

    /** "FAULTS, the first along the text" */
    private static void firstFaultAlongTheText() {
        Check.broken(2, "man a ^0;man a 1;!");
        Check.broken(4, "june ^x 60;");
        Check.broken(2, "man a 1;light a ^2 100;");
        Check.broken(2, "man a 1;june a ^60;june b 0;");
        Check.broken(4, "man a 1;lend ^x x;");
        Check.broken(4, "man a 1;lend a ^x;");
        Check.broken(3, "man a 1;man ^a 0;");
        Check.broken(3, "law burn 1;law ^burn 10000 !;");
        Check.broken(1, "^! draft 101;");
    }

    /** "of one place the least" */
    private static void ofOnePlaceTheLeast() {
        String full = "law burn not " + sum(32) + ";law glow ";
        // a 65th KNOT that can't stand there
        Check.broken(1, full + "^and;");
        Check.broken(1, full + "^<;");
        Check.broken(1, "law burn " + sum(32) + ";law glow 1 ^not;");
        Check.broken(1, "law burn " + sum(32) + ";law glow 1 ^2;");
        // a second comparison that is a 65th KNOT, too
        Check.broken(1, "law burn not " + sum(30) + "+1<1^<1;");
        // a ninth '(' that can't stand there
        Check.broken(1, "law burn ((((((((1^(;");
        // a number too high and a 65th KNOT are one FAULT
        Check.broken(2, full + "^10000;");
        // a number that can't stand there is not too high there
        Check.broken(1, "man ^99999 a;");
    }

    /** "4 a PERSON that isn't told ahead (at W)" */
    private static void toldAhead() {
        Check.good("man a 1;june a 0;", 2);
        Check.broken(4, "june ^a 0;man a 1;");
        Check.broken(4, "light ^a 0 0;man a 1;");
        Check.broken(4, "blow ^a 0 0;man a 1;");
        Check.broken(4, "man a 1;lend a ^b;man b 1;");
        Check.broken(4, "man a 1;lend ^b a;man b 1;");
        Check.broken(4, "man ab 1;june ^a 0;");
        Check.broken(4, "man a 1;june ^ab 0;");
        Check.broken(4, "man abcdef 1;june ^abcdeg 0;");
        // those of the TEXT ahead don't count
        BurntEnds x = Check.told("man a 1;");
        Check.due("anew", Check.text(x, "june a 0;"), -1);
        Check.due("not told ahead", x.fault(0), 4);
    }

    // ---- promises 1 to 5

    /** "how many it has; NONE, and none come, if it would have more than 700" */
    private static void feed() {
        BurntEnds x = new BurntEnds();
        for (int k = 1; k <= 35; k++) {
            Check.due("feed " + k, x.feed(0x20202020, -1, Integer.MIN_VALUE, 0x20202020, 7), 20 * k);
        }
        Check.due("701 and more", x.feed(1, 2, 3, 4, 5), -1);
        Check.due("none come", x.text(701), -2);
        Check.due("700 are there", x.text(700), -1);
        Check.due("the TAPE is empty", x.feed(1, 2, 3, 4, 5), 20);
        // four of each number, the highest first
        Check.feed(x, "");
        x.text(0);
        x.feed(0x6d616e20, 0x6120313b, 0x6d616e20, 0x6220323b, 0x2020200a);
        Check.due("in their order", x.text(20), 2);
        Check.due("a", Check.man(x, 0, 0), 1);
        Check.due("b", Check.man(x, 1, 0), 2);
    }

    /** "The TAPE's first n bytes (it is empty then)"; "-2, and the TAPE stays: there are not so many, n is below 0" */
    private static void textOfSoManyBytes() {
        BurntEnds x = new BurntEnds();
        Check.due("none there", x.text(1), -2);
        Check.feed(x, "man a 1;man b 2;    ");
        for (int wrong : new int[] {21, 22, 701, Integer.MAX_VALUE, -1, Integer.MIN_VALUE}) {
            Check.due("text(" + wrong + ")", x.text(wrong), -2);
        }
        Check.due("no FAULT by -2", x.fault(0), 0);
        Check.due("nobody yet", x.count(0), 0);
        Check.due("all of them", x.text(20), 2);
        Check.due("it is empty then", x.text(1), -2);
        Check.feed(x, "man c 1;man d 2;    ");
        Check.due("the first eight", x.text(8), 1);
        Check.due("the others are gone", x.text(12), -2);
        Check.due("the first eight alone", x.count(0), 1);
        Check.due("c", x.named(Check.letters("c")), 0);
        // a TEXT as long as the TAPE may be
        StringBuilder words = new StringBuilder("man a 60;");
        while (words.length() < 699) {
            words.append(' ');
        }
        Check.due("700 bytes", Check.text(x, words + ";"), -1);
        Check.due("the last place", x.fault(1), 699);
        Check.due("700 bytes", Check.text(x, words + " "), 1);
    }

    /** "The TAPE's first n bytes .. are the TEXT": those behind them don't matter, wherever they are parted. */
    private static void bytesBehindAreNone() {
        String words = "man ab 15;man bc 10;june ab 11;lend ab bc;draft 12;law burn not 10<=11;";
        for (int n = 0; n <= words.length(); n++) {
            BurntEnds x = new BurntEnds();
            BurntEnds alone = new BurntEnds();
            Check.feed(x, words);
            Check.due("the first " + n, x.text(n), Check.text(alone, words.substring(0, n)));
            Check.due("FAULT of the first " + n, x.fault(0), alone.fault(0));
            Check.due("its place", x.fault(1), alone.fault(1));
            Check.due("PEOPLE", x.count(0), alone.count(0));
            Check.due("JUNES", x.count(1), alone.count(1));
            Check.due("as all else", Check.state(x).equals(Check.state(alone)), true);
        }
    }

    /** A TEXT with as much of all as it may have. */
    private static String fullText() {
        return "man a 9;man b 9;man c 9;man d 9;man e 9;man f 9;" + lines("june a ", 12) + lines("light a 0 ", 12)
            + lines("blow b 1 ", 8) + "lend a b;lend a c;lend a d;lend a e;lend a f;lend b a;lend b c;lend b d;"
            + "draft 50;seed 9;law burn " + sum(30) + ";law glow 2;law recall ((((((((3))))))));";
    }

    /** Nothing of a TEXT is behind a later one: as much of all can be told once more, or nothing at all. */
    private static void textsBehindTexts() {
        BurntEnds x = new BurntEnds();
        for (int k = 0; k < 3; k++) {
            Check.due("full", Check.text(x, fullText()), 51);
        }
        for (int k = 0; k < 3; k++) {
            isBare(x, "behind a full one");
        }
        for (int k = 0; k < 3; k++) {
            Check.due("full again", Check.text(x, fullText()), 51);
            isBare(x, "between full ones");
        }
    }

    private static void isBare(BurntEnds x, String what) {
        Check.due(what, Check.text(x, "man a 60;man b 9;"), 2);
        int[] want = {2, 0, 0, 0, 0, 0, 69, 0, 0, 0, 0, 0, 0, 0, 0};
        for (int k = 0; k < want.length; k++) {
            Check.due(what + ": count(" + k + ")", x.count(k), want[k]);
        }
        for (int man = 0; man < 2; man++) {
            Check.due(what + ": lenders", x.lenders(man), 0);
            for (int k = 0; k < 12; k++) {
                Check.due(what + ": june", x.june(man, k), 0);
            }
            for (int rule = 0; rule < 3; rule++) {
                Check.due(what + ": law", x.law(rule, man), Long.MIN_VALUE);
            }
        }
        Check.due(what + ": named", x.named(Check.letters("f")), -1);
        Check.due(what + ": draft", x.calm(1, 1), 1);
        Check.due(what + ": a draft can be told", Check.text(x, "man a 60;light a 0 0;draft 50;law burn windy;"), 4);
        long number = 0;
        int left = 60;
        for (int k = 0; k < 10; k++) {
            number = (number * 1103515245L + 12345L) & (1L << 31) - 1;
            left -= number / 65536 % 100 < 50 ? 1 : 0;
            x.go(1);
            Check.due(what + ": numbers from 0 on", Check.man(x, 0, 1), left);
        }
    }

    /** A FAULT leaves nothing for the TEXT behind it, wherever it stood. */
    private static void textsBehindFaults() {
        BurntEnds x = Check.told("man z 1;");
        String full = fullText();
        for (int n = 1; n < full.length(); n += 3) {
            Check.text(x, full.substring(0, n) + "!");
            Check.due("the TEXT stays", x.named(Check.letters("z")), 0);
            Check.due("alone", x.count(0) * 10 + x.count(4), 10);
        }
        Check.due("a full one behind FAULTS", Check.text(x, full), 51);
        Check.text(x, full + "!");
        isBare(x, "behind a FAULT of a full one");
        for (String wrong : new String[] {"law burn 1+(2*((((((3", "law burn not not (1<(2", "law burn 1 or 2 and 3<4+5*"}) {
            Check.text(x, wrong);
            Check.due("'(' and signs of a FAULT are gone", Check.text(x, "man a 9;law burn ((((((((2))))))))*3;"), 2);
            Check.due("its worth", x.law(0, 0), 6);
            Check.due("its KNOTS", x.count(4), 3);
            Check.text(x, "!" + wrong);
            Check.text(x, wrong);
            Check.due("the same again", Check.text(x, "man a 9;law burn 4-1;") + x.law(0, 0), 5);
        }
    }

    /** The empty TEXT: without LINES, and all is anew. */
    private static void textOfNone() {
        BurntEnds x = Check.told("man a 9;light a 0 0;draft 100;");
        x.go(2);
        x.keep();
        x.light(0, 1);
        x.see(1, 0, 0, true);
        x.known(0);
        Check.due("text(0)", x.text(0), 0);
        for (int what = 0; what <= 14; what++) {
            Check.due("count(" + what + ")", x.count(what), 0);
        }
        Check.due("no IMAGE", x.back(), -1);
        Check.due("nothing to undo", x.undo(), -1);
        Check.due("no draft", x.calm(6, 0), 1);
        Check.text(x, "man a 9;light a 0 0;");
        Check.due("all KNOWN", x.see(1, 0, 0, true) + x.count(13), 1);
        Check.due("nobody has SEEN", Check.man(x, 0, 7), 0);
        Check.due("nothing LIT", Check.man(x, 0, 4), 0);
        Check.due("HOUR 0", x.go(1), 1);
        Check.due("all LEFT, one burnt", Check.man(x, 0, 1), 8);
    }

    /** "NONE with a FAULT, all else stays" (what was read ahead of the FAULT, too) */
    private static void faultKeepsAllElse() {
        for (String wrong : new String[] {"x", "man c 5;june c 0;lend c c;", "man a 9;draft 50;seed 5;law burn 0;law",
            "draft 100;light a 0 0;", "man f 1;man a 1;man f 1;"}) {
            Twins.refused("text with a FAULT", Twins::busy, x -> {
                Check.feed(x, wrong);
                int got = x.text(wrong.length());
                // the FAULT itself is new: the same one on both
                return got;
            }, -1, x -> {
                Check.feed(x, "!");
                return x.text(1);
            });
        }
    }

    /** "Of the latest text() that was not -2 .. its FAULT (0), .. its place (NONE without)" */
    private static void faultOfTheLatest() {
        BurntEnds x = new BurntEnds();
        Check.due("none yet", x.fault(0), 0);
        Check.due("no place", x.fault(1), -1);
        Check.text(x, "man a 0;");
        Check.due("2", x.fault(0), 2);
        Check.due("at 6", x.fault(1), 6);
        Check.due("-2", x.text(1), -2);
        Check.due("-2", x.text(-1), -2);
        Check.due("2 still", x.fault(0), 2);
        Check.due("at 6 still", x.fault(1), 6);
        for (int wrong : new int[] {-1, 2, 5, Integer.MIN_VALUE, Integer.MAX_VALUE}) {
            Check.due("another what", x.fault(wrong), -1);
        }
        Check.text(x, "!");
        Check.due("the latest one", x.fault(0), 1);
        Check.due("at 0", x.fault(1), 0);
        Check.text(x, "man a 1;");
        Check.due("none", x.fault(0), 0);
        Check.due("no place", x.fault(1), -1);
    }

    /** "5 bits each (a is 1; the first one highest of six, 0 behind the last one); NONE: there is none such" */
    private static void named() {
        BurntEnds x = Check.told("man a 1;man z 2;man abcdef 3;man zzzzzz 4;man aaaaaa 5;man az 6;");
        int ones = 1 << 25 | 1 << 20 | 1 << 15 | 1 << 10 | 1 << 5 | 1;
        int[] letters = {1 << 25, 26 << 25, 1 << 25 | 2 << 20 | 3 << 15 | 4 << 10 | 5 << 5 | 6, 26 * ones, ones,
            1 << 25 | 26 << 20};
        for (int man = 0; man < letters.length; man++) {
            Check.due("PERSON " + man, x.named(letters[man]), man);
            Check.due("no PERSON", x.named(letters[man] | 31), -1);
        }
        for (int wrong : new int[] {0, 1, 26, -1, 27 << 25, 1 << 30, Integer.MIN_VALUE, Integer.MAX_VALUE,
            Integer.MIN_VALUE | 1 << 25}) {
            Check.due("named(" + wrong + ")", x.named(wrong), -1);
        }
        Check.due("nobody", new BurntEnds().named(0), -1);
    }

    // ---- helpers

    /** So many LINES, the last number from 0 on. */
    private static String lines(String ahead, int many) {
        StringBuilder all = new StringBuilder();
        for (int k = 0; k < many; k++) {
            all.append(ahead).append(k).append(';');
        }
        return all.toString();
    }

    /** A sum of so many ones: that many KNOTS and one fewer signs. */
    private static String sum(int ones) {
        StringBuilder all = new StringBuilder("1");
        for (int k = 1; k < ones; k++) {
            all.append("+1");
        }
        return all.toString();
    }
}
