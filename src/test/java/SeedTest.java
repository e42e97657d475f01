/** Promise 7. */
public final class SeedTest {
    public static void main(String[] args) {
        wrongOnes();
        eachIsNeeded();
        makeNoDifference();
        Check.end();
    }

    private static void wrongOnes() {
        ThreeClerks x = new ThreeClerks();
        for (int i : new int[] {-1, 3, 4, Integer.MAX_VALUE, Integer.MIN_VALUE}) {
            Check.badArgument("seed(" + i + ", 1, 2)", () -> x.seed(i, 1, 2));
        }
        Check.compiles(x, "open a", 0);
        Check.noState("a wrong seed sets none", () -> x.run(0));
    }

    private static void eachIsNeeded() {
        for (int missing = 0; missing < 3; missing++) {
            ThreeClerks x = new ThreeClerks();
            Check.compiles(x, "open a", 0);
            for (int i = 0; i < 3; i++) {
                if (i != missing) {
                    x.seed(i, 0, 0);
                }
            }
            Check.noState("run without seed " + missing, () -> x.run(0));
            x.seed(missing, 0, 0);
            Check.opens(x, 0, 0);
        }
    }

    private static void makeNoDifference() {
        ThreeClerks x = new ThreeClerks();
        x.input(0, -9);
        x.input(1, 40);
        Check.compiles(x, "a=$0;b=$1;c=a*b;d=a<b;e=d?a:b;sort a c;sums a e;open a;open b;open c;open d;open e", 5);
        int[] seeds = {0, 1, -1, Integer.MAX_VALUE, Integer.MIN_VALUE, 0x12345678};
        for (int a : seeds) {
            for (int b : seeds) {
                x.seed(0, a, b);
                x.seed(1, b, a);
                x.seed(2, a, a ^ b);
                // The numbers in rising order are 40, -360, -9; the others are 0 and 40.
                Check.opens(x, a + b, 40, -320, -329, -329, -289);
            }
        }
    }
}
