/** Promise 4; what a script is stands in TermsTest. */
public final class CompileTest {
    public static void main(String[] args) {
        thereFromNowOn();
        inputsStay();
        seedsStay();
        outputsStay();
        textIsEmptyThen();
        howManyComparisons();
        noScript();
        textStays();
        scriptStays();
        noScriptBeforeStays();
        restStays();
        Check.end();
    }

    private static void thereFromNowOn() {
        Check.sentence("Reads the text as a script, which is there from now on");
        ThreeClerks x = Check.seeded();
        Check.compiles(x, "a=1;open a", 0);
        Check.opens(x, 5, 1);
        Check.opens(x, 6, 1);
        Check.compiles(x, "open a;open a", 0);
        Check.opens(x, 5, 0, 0);
        Check.compiles(x, "b=1", 0);
        Check.opens(x, 5);
        // An input that an earlier text names is none that this script names.
        Check.refuses(x, "a=$6;", 5);
        Check.compiles(x, "a=$7", 0);
        Check.noState("run without input 7", () -> x.run(5));
        Check.compiles(x, "b=2;open b", 0);
        Check.opens(x, 5, 2);
    }

    private static void inputsStay() {
        Check.sentence("inputs stay");
        ThreeClerks x = Check.seeded();
        for (int i = 0; i < 8; i++) {
            x.input(i, -i);
        }
        for (int i = 0; i < 8; i++) {
            Check.compiles(x, "a=$" + i + ";open a", 0);
            Check.opens(x, 5, -i);
        }
    }

    private static void seedsStay() {
        Check.sentence("seeds stay");
        ThreeClerks x = Check.seeded();
        for (int i = 0; i < 3; i++) {
            Check.compiles(x, "a=" + i + ";open a", 0);
            Check.opens(x, 5, i);
        }
    }

    private static void outputsStay() {
        Check.sentence("outputs stay");
        ThreeClerks x = Check.seeded();
        Check.compiles(x, "a=7;open a;open b", 0);
        Check.opens(x, 5, 7, 0);
        Check.compiles(x, "open a;open a;open a", 0);
        Check.has(x, 7, 0);
        Check.compiles(x, "a=1", 0);
        Check.has(x, 7, 0);
    }

    private static void textIsEmptyThen() {
        Check.sentence("the text is empty then");
        ThreeClerks x = Check.seeded();
        Check.write(x, "a=6;open a");
        x.compile();
        Check.same("wipe", 0, x.wipe());
        Check.badArgument("compile of the text that is empty then", x::compile);
        Check.same("place", 0, x.place());
        Check.opens(x, 5, 6);
        Check.compiles(x, "a=a+1;".repeat(19) + "open a", 0);
        Check.compiles(x, "a=a+2;".repeat(19) + "open a", 0);
        Check.opens(x, 5, 38);
    }

    private static void howManyComparisons() {
        Check.sentence("How many comparisons it has");
        ThreeClerks x = new ThreeClerks();
        Check.compiles(x, "a=1+2;b=1-2;c=1*2;sums a e;open a", 0);
        for (int count = 1; count <= 12; count++) {
            Check.compiles(x, "a=a<b;".repeat(count - 1) + "a=b?c:d", count);
        }
        Check.compiles(x, "sort a c;a=b<c;a=b?c:d", 5);
        Check.compiles(x, "open a", 0);
    }

    private static void noScript() {
        Check.sentence("Illegal argument: it is no script");
        ThreeClerks x = new ThreeClerks();
        for (String text : new String[] {"", " ", ";", "a", "a=", "a=1;", "#", "sort", "sort=1", "A=1", "a==1", "open a open b"}) {
            Check.write(x, text);
            Check.badArgument("compile of <" + text + ">", x::compile);
            x.wipe();
        }
    }

    private static void textStays() {
        Check.sentence("text stays as it was");
        ThreeClerks x = Check.seeded();
        Check.write(x, "a=");
        Check.badArgument("compile", x::compile);
        Check.badArgument("compile again", x::compile);
        Check.write(x, "5;open a;");
        Check.badArgument("compile of what is still no script", x::compile);
        Check.same("place", 11, x.place());
        Check.write(x, "open b");
        Check.same("compile of what is one now", 0, x.compile());
        Check.opens(x, 5, 5, 0);
        Check.write(x, "#".repeat(120));
        Check.badArgument("compile of a full text", x::compile);
        Check.holds("it is still full", !x.write('#'));
        Check.same("wipe", 120, x.wipe());
    }

    private static void scriptStays() {
        Check.sentence("script stays as it was");
        ThreeClerks x = Check.seeded();
        x.input(1, 12);
        Check.compiles(x, "a=$1;open a", 0);
        // Nothing of what was read of these texts may be left over.
        Check.refuses(x, "open b;open c;a=$5;sort a e;a=", 30);
        Check.opens(x, 6, 12);
        Check.refuses(x, "", 0);
        Check.opens(x, 6, 12);
        Check.refuses(x, "a=3;open b;#", 11);
        Check.opens(x, 6, 12);
        Check.refuses(x, "sort a e;sort a c", 16);
        Check.compiles(x, "sort a e;sort a b;sort a b", 12);
        Check.refuses(x, "open a;".repeat(16) + "open a", 112);
        Check.compiles(x, "open a;".repeat(15) + "open a", 0);
    }

    private static void noScriptBeforeStays() {
        Check.sentence("script stays as it was, if there was none");
        ThreeClerks x = Check.seeded();
        Check.refuses(x, "a=1;open a;", 11);
        Check.noState("run", () -> x.run(0));
        Check.refuses(x, "", 0);
        Check.noState("run", () -> x.run(0));
    }

    private static void restStays() {
        Check.sentence("no script: inputs, seeds and outputs stay too");
        ThreeClerks x = Check.seeded();
        x.input(1, 12);
        Check.compiles(x, "a=$1;open a", 0);
        Check.opens(x, 5, 12);
        x.input(1, 13);
        Check.refuses(x, "open b;open c;a=$1;", 19);
        Check.has(x, 12);
        Check.opens(x, 6, 13);
    }
}
