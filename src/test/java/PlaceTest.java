/** Promise 5. */
public final class PlaceTest {
    public static void main(String[] args) {
        ThreeClerks x = new ThreeClerks();
        Check.same("no call", -1, x.place());
        Check.write(x, "a=");
        Check.same("no call yet", -1, x.place());
        tooEarly(new ThreeClerks());
        wrongToken(new ThreeClerks());
        noToken();
        rows(new ThreeClerks());
        limits(new ThreeClerks());
        firstOne(new ThreeClerks());
        latest(new ThreeClerks());
        Check.end();
    }

    private static void tooEarly(ThreeClerks x) {
        String[] texts = {"", "   ", "a", "a ", "a=", "a=$", "a=b+", "a=1 <  ", "a=b?", "a=b?c", "a=b?c:", "sort", "sort a",
            "sums ", "sums a", "open", "open  ", "a=1;", "a=1; ", "open a ;"};
        for (String text : texts) {
            Check.refuses(x, text, text.length());
        }
        Check.refuses(x, " ".repeat(120), 120);
    }

    private static void wrongToken(ThreeClerks x) {
        Check.refuses(x, "=a", 0);
        Check.refuses(x, "  ;", 2);
        Check.refuses(x, "12", 0);
        Check.refuses(x, "$1=a", 0);
        Check.refuses(x, "ab=1", 0);
        Check.refuses(x, "sorta b", 0);
        Check.refuses(x, "sort=1", 4);
        Check.refuses(x, "open=1", 4);
        Check.refuses(x, "a1=2", 1);
        Check.refuses(x, "a b", 2);
        Check.refuses(x, "a=-1", 2);
        Check.refuses(x, "a=;", 2);
        Check.refuses(x, "a=bc", 2);
        Check.refuses(x, "a=open", 2);
        Check.refuses(x, "a=1b", 3);
        Check.refuses(x, "a=b=c", 3);
        Check.refuses(x, "a=b+c+d", 5);
        Check.refuses(x, "a=b+-c", 4);
        Check.refuses(x, "a=b?c;d", 5);
        Check.refuses(x, "a=b?c:d:e", 7);
        Check.refuses(x, "a=b?c<d:e", 5);
        Check.refuses(x, "a=b:c", 3);
        Check.refuses(x, "a=$b", 3);
        Check.refuses(x, "a=$$1", 3);
        Check.refuses(x, "a=$8", 3);
        Check.refuses(x, "a=$ 10", 4);
        Check.refuses(x, "a=$008+", 3);
        Check.refuses(x, "a=1;;b=1", 4);
        Check.refuses(x, "open 1", 5);
        Check.refuses(x, "open ab", 5);
        Check.refuses(x, "open a b", 7);
    }

    private static void noToken() {
        for (char c = 33; c <= 126; c++) {
            if ("=+-*<?:;$".indexOf(c) < 0 && !Character.isDigit(c) && !(c >= 'a' && c <= 'z')) {
                ThreeClerks x = new ThreeClerks();
                Check.refuses(x, " a= " + c, 4);
                Check.refuses(x, "a=1 " + c, 4);
                Check.refuses(x, c + "a=1", 0);
            }
        }
        ThreeClerks x = new ThreeClerks();
        Check.refuses(x, "aB=1", 1);
        Check.refuses(x, "a=1000", 2);
        Check.refuses(x, "a=b+0000", 4);
        Check.refuses(x, "a= $ 0001", 5);
        Check.refuses(x, "a=" + "9".repeat(118), 2);
        Check.refuses(x, "a=12 34567", 5);
    }

    private static void rows(ThreeClerks x) {
        for (String word : new String[] {"sort ", "sums "}) {
            Check.refuses(x, word + "c c", 7);
            Check.refuses(x, word + "c b;#", 7);
            Check.refuses(x, word + "a f", 7);
            Check.refuses(x, word + "z a", 7);
            Check.refuses(x, word + "a 1", 7);
            Check.refuses(x, word + "a;b", 6);
            Check.refuses(x, word + "ab", 5);
            Check.refuses(x, word + "a bc", 7);
            Check.refuses(x, word + "a b c", 9);
            Check.refuses(x, word + "$1 b", 5);
        }
    }

    private static void limits(ThreeClerks x) {
        String twelve = "a=a<b;a=a?b:c;sort a e;";
        Check.refuses(x, twelve + "b=a<", 26);
        Check.refuses(x, twelve + "b=a ? ;", 27);
        Check.refuses(x, twelve + "sort a  b;#", 31);
        Check.refuses(x, twelve + "sort a;#", 29);
        Check.refuses(x, twelve + "a=b;#", 27);
        Check.refuses(x, "open a;".repeat(16) + " open", 113);
        Check.refuses(x, "open a;".repeat(16) + " openb", 113);
        Check.refuses(x, "open a;".repeat(16) + "a=b;", 116);
    }

    /** The first one that is wrong counts, whatever stands behind it. */
    private static void firstOne(ThreeClerks x) {
        Check.refuses(x, "a=+#", 2);
        Check.refuses(x, "a=;b=1000", 2);
        Check.refuses(x, "a=1;b=#;c=", 6);
        Check.refuses(x, "sort a b;sort c a;open 5", 16);
    }

    private static void latest(ThreeClerks x) {
        Check.refuses(x, "a=1;#", 4);
        Check.compiles(x, "a=1", 0);
        Check.same("a script", -1, x.place());
        Check.refuses(x, "#", 0);
        Check.write(x, "a=1;b=2");
        x.input(0, 0);
        Check.same("other calls do not change it", 0, x.place());
        x.compile();
        Check.same("a script again", -1, x.place());
        Check.same("and still", -1, x.place());
    }
}
