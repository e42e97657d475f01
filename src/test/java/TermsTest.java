/** The section Terms, as far as it says what a script is: seen by what compile answers. */
public final class TermsTest {
    private static final String[] ROWS = {"sort ", "sums "};

    public static void main(String[] args) {
        registers();
        longestText();
        codes();
        longestTokens();
        threeDecimals();
        signs();
        blanks();
        oneStatementAtLeast();
        semicolonBetween();
        twelveComparisons();
        sixteenOpens();
        wordOfOneLetter();
        inputNumbers();
        assignments();
        firstBeforeSecond();
        fourLettersApart();
        comparisonsOfSort();
        open();
        Check.end();
    }

    private static void registers() {
        Check.sentence("REGISTERS are a .. z");
        for (char r = 'a'; r <= 'z'; r++) {
            ThreeClerks x = Check.seeded();
            Check.compiles(x, r + "=" + r + "+" + (r - 'a') + ";open " + r, 0);
            Check.opens(x, 0, r - 'a');
            char other = r == 'z' ? 'a' : (char) (r + 1);
            Check.compiles(x, other + "=5;" + r + "=9;open " + other + ";open " + r, 0);
            Check.opens(x, 0, 5, 9);
        }
        for (char c : new char[] {'`', '{', 'A', 'Z', '@', '_'}) {
            ThreeClerks x = new ThreeClerks();
            Check.refuses(x, c + "=1", 0);
            Check.refuses(x, "a=" + c, 2);
            Check.refuses(x, "open " + c, 5);
        }
    }

    private static void longestText() {
        Check.sentence("THE TEXT is a row of at most 120 characters");
        ThreeClerks x = Check.seeded();
        Check.compiles(x, "a=a+1;".repeat(19) + "open a", 0);
        Check.opens(x, 0, 19);
        Check.compiles(x, "a=b;".repeat(29) + "z=" + "12", 0);
        Check.compiles(x, " ".repeat(110) + "a=3;open a", 0);
        Check.opens(x, 0, 3);
        Check.compiles(x, "a=a*a;".repeat(18) + "a=2 ;" + "open  a", 0);
        Check.write(x, "a=b;".repeat(30));
        Check.holds("one more", !x.write('a'));
        Check.same("wipe", 120, x.wipe());
    }

    private static void codes() {
        Check.sentence("characters with codes 32 .. 126");
        ThreeClerks x = new ThreeClerks();
        for (int code : new int[] {1, 9, 10, 13, 31, 127, 128, 160, 225, 255}) {
            Check.holds("code " + code, !x.write(code));
        }
        for (int code = 32; code <= 126; code++) {
            Check.holds("code " + code, x.write(code));
        }
        Check.same("wipe", 95, x.wipe());
    }

    private static void longestTokens() {
        Check.sentence("a row of TOKENS, each as long as can be");
        ThreeClerks x = new ThreeClerks();
        Check.refuses(x, "opena", 0);
        Check.refuses(x, "openopen a", 0);
        Check.refuses(x, "sortab", 0);
        Check.refuses(x, "sumsa b", 0);
        Check.refuses(x, "sort ab", 5);
        Check.refuses(x, "ab=1", 0);
        Check.refuses(x, "a=bc", 2);
        Check.refuses(x, "a=bopen", 2);
        Check.refuses(x, "a=1000", 2);
        Check.refuses(x, "a=$10", 3);
        // Between two kinds of tokens no blank is needed.
        Check.refuses(x, "open1", 4);
        Check.refuses(x, "a=1b", 3);
        Check.refuses(x, "a=b1", 3);
        Check.compiles(x, "a=1+b;b=b-1", 0);
    }

    private static void threeDecimals() {
        Check.sentence("numbers (one to three decimals)");
        Check.reckons("a=0;open a;a=9;open a;a=10;open a;a=99;open a;a=100;open a;a=999;open a", new int[0], 0, 9, 10, 99, 100, 999);
        Check.reckons("a=000;open a;a=00;open a;a=007;open a;a=010;open a;a=08;open a;a=099;open a", new int[0], 0, 0, 7, 10, 8, 99);
        ThreeClerks x = new ThreeClerks();
        Check.refuses(x, "a=1000", 2);
        Check.refuses(x, "a=0000", 2);
        Check.refuses(x, "a=00000000000000000001", 2);
    }

    private static void signs() {
        Check.sentence("the signs = + - * < ? : ; $");
        ThreeClerks x = Check.seeded();
        x.input(4, 30);
        Check.compiles(x, "a=$4+2;b=a-1;c=b*3;d=c<b;e=d?a:c;open e", 2);
        Check.opens(x, 0, 93);
        for (char c : "!\"#%&'(),./>@[\\]^_`{|}~".toCharArray()) {
            Check.refuses(x, "a=b" + c + "c", 3);
        }
    }

    private static void blanks() {
        Check.sentence("with blanks between where one wants");
        ThreeClerks x = Check.seeded();
        x.input(2, 8);
        Check.compiles(x, "   a   =   $   2   +   30   ;   open   a   ", 0);
        Check.opens(x, 0, 38);
        Check.compiles(x, "a=$2+30;open a", 0);
        Check.opens(x, 0, 38);
        Check.compiles(x, " a = b ? c : $ 2 ; sort  a  b ; sums  a  b ; b = a < 3 ", 3);
        Check.refuses(x, "a=1 2", 4);
        Check.refuses(x, "so rt a b", 0);
        Check.refuses(x, "op en a", 0);
        Check.refuses(x, "a b=1", 2);
    }

    private static void oneStatementAtLeast() {
        Check.sentence("statements, one at least");
        ThreeClerks x = new ThreeClerks();
        Check.refuses(x, "", 0);
        Check.refuses(x, "     ", 5);
        Check.refuses(x, ";", 0);
        Check.compiles(x, "a=b", 0);
        Check.compiles(x, "open a", 0);
        Check.compiles(x, "sums a b", 0);
        Check.compiles(x, "sort a b", 1);
    }

    private static void semicolonBetween() {
        Check.sentence("with ; between");
        ThreeClerks x = new ThreeClerks();
        Check.compiles(x, "a=b;open a;sums a c;sort a b;b=a", 1);
        Check.compiles(x, "a=b;".repeat(29) + "a=b", 0);
        Check.refuses(x, "a=b;", 4);
        Check.refuses(x, ";a=b", 0);
        Check.refuses(x, "a=b;;a=b", 4);
        Check.refuses(x, "a=b open a", 4);
        Check.refuses(x, "open a open b", 7);
        Check.refuses(x, "sort a b sort a b", 9);
    }

    private static void twelveComparisons() {
        Check.sentence("has at most 12 COMPARISONS");
        ThreeClerks x = new ThreeClerks();
        Check.compiles(x, "a=a<b;".repeat(11) + "a=a<b", 12);
        Check.refuses(x, "a=a<b;".repeat(12) + "a=a<b", 75);
        Check.compiles(x, "a=a?b:c;".repeat(11) + "a=a?b:c", 12);
        Check.refuses(x, "a=a?b:c;".repeat(12) + "a=a?b:c", 99);
        Check.compiles(x, "sort a e;a=a<b;a=a<b", 12);
        Check.refuses(x, "sort a e;a=a<b;a=a<b;a=a<b", 24);
        Check.compiles(x, "a=a<b;a=a<b;sort a e", 12);
        Check.refuses(x, "a=a<b;a=a<b;a=a<b;sort a e", 25);
        Check.compiles(x, "sort a d;sort c f", 12);
        Check.compiles(x, "sums a e;".repeat(12) + "sums a e", 0);
        Check.compiles(x, "a=b*c;".repeat(19) + "a=b-c", 0);
    }

    private static void sixteenOpens() {
        Check.sentence("and 16 words open");
        ThreeClerks x = new ThreeClerks();
        Check.compiles(x, "open a;".repeat(14) + "open a", 0);
        Check.compiles(x, "open a;".repeat(15) + "open a", 0);
        Check.compiles(x, "open a;".repeat(16) + "a=b", 0);
        Check.refuses(x, "open a;".repeat(16) + "open a", 112);
    }

    private static void wordOfOneLetter() {
        Check.sentence("a register being a word of one letter");
        ThreeClerks x = new ThreeClerks();
        Check.refuses(x, "aa=1", 0);
        Check.refuses(x, "a=aa", 2);
        Check.refuses(x, "a=b+cc", 4);
        Check.refuses(x, "a=b?cc:d", 4);
        Check.refuses(x, "a=b?c:dd", 6);
        Check.refuses(x, "open aa", 5);
        Check.refuses(x, "sort aa b", 5);
        Check.refuses(x, "sums a bb", 7);
        Check.refuses(x, "a=sort", 2);
        Check.refuses(x, "open open", 5);
    }

    private static void inputNumbers() {
        Check.sentence("$ and a number 0 .. 7, which is an input");
        ThreeClerks x = new ThreeClerks();
        for (int i = 0; i < 8; i++) {
            Check.compiles(x, "a=$" + i, 0);
            Check.compiles(x, "a=$00" + i + "+$0" + i, 0);
        }
        for (String number : new String[] {"8", "9", "08", "10", "70", "77", "100", "256", "999", "a", "-1", "$1", ";"}) {
            Check.refuses(x, "a=$" + number, 3);
            Check.refuses(x, "a=1+$ " + number, 6);
        }
    }

    private static void assignments() {
        Check.sentence("register = value, or register = value op value, or register = value ? value : value");
        ThreeClerks x = new ThreeClerks();
        String[] values = {"b", "7", "$7"};
        for (String p : values) {
            Check.compiles(x, "a=" + p, 0);
            for (String q : values) {
                Check.compiles(x, "a=" + p + "+" + q, 0);
                Check.compiles(x, "a=" + p + "-" + q, 0);
                Check.compiles(x, "a=" + p + "*" + q, 0);
                Check.compiles(x, "a=" + p + "<" + q, 1);
                for (String r : values) {
                    Check.compiles(x, "a=" + p + "?" + q + ":" + r, 1);
                }
            }
        }
        Check.refuses(x, "7=a", 0);
        Check.refuses(x, "$7=a", 0);
        Check.refuses(x, "a+b", 1);
        Check.refuses(x, "a=b+c*d", 5);
        Check.refuses(x, "a=b:c", 3);
    }

    private static void firstBeforeSecond() {
        Check.sentence("the first one is before the second one in the alphabet");
        for (String word : ROWS) {
            int one = word.equals("sort ") ? 1 : 0;
            for (char r = 'a'; r < 'z'; r++) {
                ThreeClerks x = new ThreeClerks();
                char after = (char) (r + 1);
                Check.compiles(x, word + r + " " + after, one);
                Check.refuses(x, word + r + " " + r, 7);
                Check.refuses(x, word + after + " " + r, 7);
            }
            Check.refuses(new ThreeClerks(), word + "z z", 7);
        }
    }

    private static void fourLettersApart() {
        Check.sentence("and at most 4 letters before it");
        for (String word : ROWS) {
            int ten = word.equals("sort ") ? 10 : 0;
            for (char r = 'a'; r <= 'u'; r++) {
                ThreeClerks x = new ThreeClerks();
                Check.compiles(x, word + r + " " + (char) (r + 4), ten);
                Check.refuses(x, word + r + " " + (char) (r + 5), 7);
            }
            Check.compiles(new ThreeClerks(), word + "v z", ten);
            Check.refuses(new ThreeClerks(), word + "a z", 7);
        }
    }

    private static void comparisonsOfSort() {
        Check.sentence("A sort of n registers counts as n(n - 1)/2 comparisons");
        ThreeClerks x = new ThreeClerks();
        Check.compiles(x, "sort a b", 1);
        Check.compiles(x, "sort a c", 3);
        Check.compiles(x, "sort a d", 6);
        Check.compiles(x, "sort a e", 10);
        Check.compiles(x, "sort a c;sort a d;sort a c", 12);
        Check.compiles(x, "sort y z;".repeat(11) + "sort y z", 12);
        Check.refuses(x, "sort y z;".repeat(12) + "sort y z", 115);
        Check.refuses(x, "sort a d;sort a c;sort a d", 25);
    }

    private static void open() {
        Check.sentence("open register");
        ThreeClerks x = new ThreeClerks();
        Check.refuses(x, "open 1", 5);
        Check.refuses(x, "open $1", 5);
        Check.refuses(x, "open", 4);
        Check.refuses(x, "open a+b", 6);
        Check.compiles(x, "open z", 0);
    }
}
