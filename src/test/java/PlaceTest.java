/** Promise 5. */
public final class PlaceTest {
    public static void main(String[] args) {
        wrongToken();
        whereItBegan();
        byWhatStoodBefore();
        latestCall();
        tooManyComparisons();
        tooManyBySort();
        tooManyOpens();
        tooManyDecimals();
        noToken();
        tooEarly();
        wrongRows();
        aScript();
        noCall();
        otherCalls();
        Check.end();
    }

    private static void wrongToken() {
        Check.sentence("the token that could not stand where it stood");
        ThreeClerks x = new ThreeClerks();
        Check.refuses(x, "=a", 0);
        Check.refuses(x, "12", 0);
        Check.refuses(x, "$1=a", 0);
        Check.refuses(x, "ab=1", 0);
        Check.refuses(x, "sorta b", 0);
        Check.refuses(x, "sort=1", 4);
        Check.refuses(x, "open=1", 4);
        Check.refuses(x, "a1=2", 1);
        Check.refuses(x, "a b", 2);
        Check.refuses(x, "a=-1", 2);
        Check.refuses(x, "a=;", 2);
        Check.refuses(x, "a=bc", 2);
        Check.refuses(x, "a=open", 2);
        Check.refuses(x, "a=1b", 3);
        Check.refuses(x, "a=b=c", 3);
        Check.refuses(x, "a=b+c+d", 5);
        Check.refuses(x, "a=b<c<d", 5);
        Check.refuses(x, "a=b+-c", 4);
        Check.refuses(x, "a=b?c;d", 5);
        Check.refuses(x, "a=b?c:d:e", 7);
        Check.refuses(x, "a=b?c:d+e", 7);
        Check.refuses(x, "a=b?c<d:e", 5);
        Check.refuses(x, "a=b:c", 3);
        Check.refuses(x, "a=$b", 3);
        Check.refuses(x, "a=$$1", 3);
        Check.refuses(x, "a=$8", 3);
        Check.refuses(x, "a=$008+", 3);
        Check.refuses(x, "a=1;;b=1", 4);
        Check.refuses(x, "open 1", 5);
        Check.refuses(x, "open ab", 5);
        Check.refuses(x, "open a b", 7);
    }

    private static void whereItBegan() {
        Check.sentence("At which character the token began");
        ThreeClerks x = new ThreeClerks();
        Check.refuses(x, "  ;", 2);
        Check.refuses(x, "   abc   =   1   ", 3);
        Check.refuses(x, "a   =   bcd   ", 8);
        Check.refuses(x, "a=$   100   ", 6);
        Check.refuses(x, "a = b   c", 8);
        Check.refuses(x, " ".repeat(119) + ";", 119);
        Check.refuses(x, "a=b;".repeat(29) + "a=bc", 118);
    }

    private static void byWhatStoodBefore() {
        Check.sentence("by what stood before it");
        ThreeClerks x = new ThreeClerks();
        Check.refuses(x, "a=+#", 2);
        Check.refuses(x, "a=;b=1000", 2);
        Check.refuses(x, "a=1;b=#;c=", 6);
        Check.refuses(x, "a b 1000 # $9", 2);
        Check.refuses(x, "sort a b;sort c a;open 5", 16);
        Check.refuses(x, "open 5;" + "open a;".repeat(16), 5);
        Check.refuses(x, "a=;" + "b=b<c;".repeat(13), 2);
    }

    private static void latestCall() {
        Check.sentence("in the latest call of compile()");
        ThreeClerks x = new ThreeClerks();
        Check.refuses(x, "a=1;#", 4);
        Check.refuses(x, "#", 0);
        Check.refuses(x, "a=1;b=", 6);
        Check.compiles(x, "a=1", 0);
        Check.refuses(x, "a#", 1);
        Check.write(x, "open");
        Check.badArgument("compile", x::compile);
        Check.same("place", 4, x.place());
        Check.write(x, " a b");
        Check.same("place before the next call", 4, x.place());
        Check.badArgument("compile of the longer text", x::compile);
        Check.same("place", 7, x.place());
    }

    private static void tooManyComparisons() {
        Check.sentence("one with which there were more than 12 comparisons");
        ThreeClerks x = new ThreeClerks();
        Check.refuses(x, "a=a<b;".repeat(12) + "a=a<b", 75);
        Check.refuses(x, "a=a<b;".repeat(12) + "a=a ? b:c", 76);
        Check.refuses(x, "a=a?b:c;".repeat(12) + "b= $0 <", 102);
        String twelve = "a=a<b;a=a?b:c;sort a e;";
        Check.compiles(x, twelve + "a=b+c;sums a e;open a", 12);
        Check.refuses(x, twelve + "b=a<", 26);
        Check.refuses(x, twelve + "b=a ? ;", 27);
        // What stands before the thirteenth one goes first, and so does nothing behind it.
        Check.refuses(x, twelve + "b=+<", 25);
        Check.refuses(x, twelve + "b=a<#", 26);
        Check.refuses(x, twelve + "a=b;#", 27);
    }

    private static void tooManyBySort() {
        Check.sentence("for a sort its second register");
        ThreeClerks x = new ThreeClerks();
        String twelve = "a=a<b;a=a?b:c;sort a e;";
        Check.refuses(x, twelve + "sort a  b;#", 31);
        Check.refuses(x, twelve + "sort a;#", 29);
        Check.refuses(x, twelve + "sort a", 29);
        Check.refuses(x, twelve + "sort", 27);
        Check.refuses(x, "sort a e;sort a c", 16);
        Check.compiles(x, "sort a e;sort a b;sort a b", 12);
        Check.refuses(x, "a=a<b;".repeat(3) + "sort a e", 25);
        Check.compiles(x, "a=a<b;".repeat(2) + "sort a e", 12);
        Check.refuses(x, "sort a d;sort a d;sort y z", 25);
        Check.refuses(x, "sort a d;sort b e;a=b<c", 21);
    }

    private static void tooManyOpens() {
        Check.sentence("or more than 16 words open");
        ThreeClerks x = new ThreeClerks();
        String sixteen = "open a;".repeat(16);
        Check.refuses(x, sixteen + "open a", 112);
        Check.refuses(x, sixteen + " open", 113);
        Check.refuses(x, sixteen + "open 5", 112);
        Check.refuses(x, sixteen + " openb", 113);
        Check.refuses(x, sixteen + "a=b;", 116);
        Check.compiles(x, sixteen + "a=b", 0);
    }

    private static void tooManyDecimals() {
        Check.sentence("a number of more than three decimals");
        ThreeClerks x = new ThreeClerks();
        Check.refuses(x, "a=1000", 2);
        Check.refuses(x, "a=b+0000", 4);
        Check.refuses(x, "a= $ 0001", 5);
        Check.refuses(x, "a=" + "9".repeat(118), 2);
        Check.refuses(x, "a=12 34567", 5);
        Check.refuses(x, "1234", 0);
        // By 32 bits these would be 0 and 1 again.
        Check.refuses(x, "a=4294967296", 2);
        Check.refuses(x, "a=$4294967297", 3);
    }

    private static void noToken() {
        Check.sentence("a character that begins no token");
        for (char c = 33; c <= 126; c++) {
            if ("=+-*<?:;$".indexOf(c) < 0 && !Character.isDigit(c) && !(c >= 'a' && c <= 'z')) {
                ThreeClerks x = new ThreeClerks();
                Check.refuses(x, " a= " + c, 4);
                Check.refuses(x, "a=1 " + c, 4);
                Check.refuses(x, "a=1" + c, 3);
                Check.refuses(x, "a" + c + "=1", 1);
                Check.refuses(x, c + "a=1", 0);
                Check.refuses(x, "a=1;" + c, 4);
            }
        }
    }

    private static void tooEarly() {
        Check.sentence("the length of the text, if it just ended too early");
        ThreeClerks x = new ThreeClerks();
        String[] texts = {"", "   ", "a", "a ", "a=", "a=$", "a=b+", "a=1 <  ", "a=b?", "a=b?c", "a=b?c:", "sort", "sort a",
            "sums ", "sums a", "open", "open  ", "a=1;", "a=1; ", "open a ;"};
        for (String text : texts) {
            Check.refuses(x, text, text.length());
        }
        Check.refuses(x, " ".repeat(120), 120);
        Check.refuses(x, "a=b;".repeat(30), 120);
        Check.refuses(x, "a=b;".repeat(29) + "a=b+", 120);
    }

    private static void wrongRows() {
        Check.sentence("the token that could not stand where it stood: the registers of sort and sums");
        ThreeClerks x = new ThreeClerks();
        for (String word : new String[] {"sort ", "sums "}) {
            Check.refuses(x, word + "c c", 7);
            Check.refuses(x, word + "c b;#", 7);
            Check.refuses(x, word + "a f", 7);
            Check.refuses(x, word + "a z", 7);
            Check.refuses(x, word + "z a", 7);
            Check.refuses(x, word + "a 1", 7);
            Check.refuses(x, word + "a;b", 6);
            Check.refuses(x, word + "ab", 5);
            Check.refuses(x, word + "a bc", 7);
            Check.refuses(x, word + "a b c", 9);
            Check.refuses(x, word + "$1 b", 5);
        }
    }

    private static void aScript() {
        Check.sentence("-1 when it was a script");
        ThreeClerks x = new ThreeClerks();
        Check.compiles(x, "a=1", 0);
        Check.refuses(x, "a=1;#", 4);
        Check.compiles(x, "a=1;b=2", 0);
        Check.same("and still", -1, x.place());
    }

    private static void noCall() {
        Check.sentence("-1 when there was no call");
        ThreeClerks x = new ThreeClerks();
        Check.same("place", -1, x.place());
        Check.write(x, "a=#");
        Check.same("with a text", -1, x.place());
        x.wipe();
        Check.noState("run", () -> x.run(0));
        Check.same("after other calls", -1, x.place());
    }

    private static void otherCalls() {
        Check.sentence("place: other calls do not change it");
        ThreeClerks x = Check.seeded();
        Check.compiles(x, "a=$0;open a", 0);
        Check.refuses(x, "a=1;#", 4);
        Check.write(x, "a=1;b=2");
        Check.noState("run", () -> x.run(0));
        x.input(0, 0);
        x.seed(0, 1, 1);
        Check.badArgument("input(8, 0)", () -> x.input(8, 0));
        Check.opens(x, 0, 0);
        x.wipe();
        Check.same("place", 4, x.place());
    }
}
