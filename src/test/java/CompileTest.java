/** Promise 4, and what a script is. */
public final class CompileTest {
    public static void main(String[] args) {
        forms();
        blanks();
        comparisons();
        opens();
        stays();
        replaces();
        Check.end();
    }

    private static void forms() {
        ThreeClerks x = new ThreeClerks();
        String[] plain = {"a=b", "z=999", "a=0", "a=007", "q=$0", "q=$7", "q=$007", "q=$07", "a=b+c", "a=1-$3", "a=$1*b",
            "sums a b", "sums a e", "sums v z", "sums y z", "open a", "open z", "a=1;b=2;c=3", "a=b;open a;sums a c"};
        for (String text : plain) {
            Check.compiles(x, text, 0);
        }
        Check.compiles(x, "a=b<c", 1);
        Check.compiles(x, "a=b?c:d", 1);
        Check.compiles(x, "a=1?$2:3", 1);
        Check.compiles(x, "sort a b", 1);
        Check.compiles(x, "sort a c", 3);
        Check.compiles(x, "sort a d", 6);
        Check.compiles(x, "sort v z", 10);
        Check.refuses(x, "sort", 4);
        Check.refuses(x, "A=1", 0);
        Check.refuses(x, "a==1", 2);
    }

    private static void blanks() {
        ThreeClerks x = Check.seeded();
        x.input(2, 8);
        Check.compiles(x, "   a   =   $   2   +   30   ;   open   a   ", 0);
        Check.opens(x, 0, 38);
        Check.compiles(x, "a=$2+30;open a", 0);
        Check.opens(x, 0, 38);
        Check.refuses(x, "a=1 2", 4);
        Check.refuses(x, "so rt a b", 0);
        Check.refuses(x, "opena", 0);
    }

    private static void comparisons() {
        ThreeClerks x = new ThreeClerks();
        Check.compiles(x, "a=a<b;".repeat(11) + "a=a?b:c", 12);
        Check.refuses(x, "a=a<b;".repeat(12) + "a=a<b", 75);
        Check.compiles(x, "sort a e;a=a<b;a=a<b", 12);
        Check.compiles(x, "sort a d;sort c f", 12);
        Check.compiles(x, "a=a<b;a=a<b;sort a e", 12);
        Check.refuses(x, "a=a<b;a=a<b;a=a<b;sort a e", 25);
    }

    private static void opens() {
        ThreeClerks x = new ThreeClerks();
        Check.compiles(x, "open a;".repeat(15) + "open a", 0);
        Check.refuses(x, "open a;".repeat(16) + "open a", 112);
    }

    private static void stays() {
        ThreeClerks x = Check.seeded();
        x.input(1, 12);
        Check.compiles(x, "a=$1;open a", 0);
        Check.opens(x, 5, 12);
        // Nothing of what was read of a text that is no script may be left over.
        Check.refuses(x, "open b;open c;a=$5;sort a e;a=", 30);
        Check.has(x, 12);
        Check.opens(x, 6, 12);
        Check.write(x, "a=9");
        x.write('A');
        Check.badArgument("compile", x::compile);
        Check.badArgument("compile again", x::compile);
        Check.same("text stays", 4, x.wipe());
        Check.opens(x, 6, 12);
    }

    private static void replaces() {
        ThreeClerks x = Check.seeded();
        x.input(1, 12);
        Check.compiles(x, "a=$1;open a;b=a<5;open b", 1);
        Check.opens(x, 5, 12, 0);
        Check.compiles(x, "open a", 0);
        Check.has(x, 12, 0);
        Check.opens(x, 5, 0);
        Check.compiles(x, "b=$1;open b", 0);
        Check.opens(x, 5, 12);
        Check.compiles(x, "b=1", 0);
        Check.opens(x, 5);
        // An input that an earlier text names is none that this script names.
        Check.refuses(x, "a=$6;", 5);
        Check.compiles(x, "a=$7", 0);
        Check.noState("run without input 7", () -> x.run(5));
        Check.compiles(x, "b=2;open b", 0);
        Check.opens(x, 5, 2);
    }
}
