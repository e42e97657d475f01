/** Promise 7. */
public final class SeedTest {
    private static final int[] WRONG = {-1, 3, 4, 5, -3, 256, Integer.MAX_VALUE, Integer.MIN_VALUE};

    public static void main(String[] args) {
        setsSeed();
        setAnew();
        wrongIndex();
        wrongIndexSetsNothing();
        Check.end();
    }

    private static void setsSeed() {
        Check.sentence("Sets seed i");
        int[][] orders = {{0, 1, 2}, {2, 1, 0}, {1, 0, 2}, {1, 2, 0}};
        for (int[] order : orders) {
            ThreeClerks x = new ThreeClerks();
            Check.compiles(x, "a=2;open a", 0);
            for (int i = 0; i < 3; i++) {
                Check.noState("run with " + i + " seeds", () -> x.run(0));
                x.seed(order[i], 0, 0);
                x.seed(order[i], 0, 0);
            }
            Check.opens(x, 0, 2);
        }
    }

    private static void setAnew() {
        Check.sentence("Sets seed i, which makes no difference to the outputs");
        int[] seeds = {0, 1, -1, Integer.MAX_VALUE, Integer.MIN_VALUE, 0x12345678};
        for (int a : seeds) {
            ThreeClerks x = new ThreeClerks();
            x.input(0, -9);
            x.input(1, 40);
            Check.compiles(x, "a=$0;b=$1;c=a*b;d=a<b;e=d?a:b;sort a c;sums a e;open a;open b;open c;open d;open e", 5);
            for (int b : seeds) {
                x.seed(0, a, b);
                x.seed(1, b, a);
                x.seed(2, a, a ^ b);
                // The numbers in rising order are 40, -360, -9; the others are 0 and 40.
                Check.opens(x, a + b, 40, -320, -329, -329, -289);
                x.seed(1, a, b);
                x.seed(2, a, b);
                Check.has(x, 40, -320, -329, -329, -289);
                Check.opens(x, a + b, 40, -320, -329, -329, -289);
            }
        }
    }

    private static void wrongIndex() {
        Check.sentence("Illegal argument: i is not 0 .. 2");
        ThreeClerks x = new ThreeClerks();
        for (int i : WRONG) {
            Check.badArgument("seed(" + i + ", 1, 2)", () -> x.seed(i, 1, 2));
        }
        for (int i = 0; i < 3; i++) {
            x.seed(i, 1, 2);
        }
    }

    private static void wrongIndexSetsNothing() {
        Check.sentence("i is not 0 .. 2: none is set");
        for (int missing = 0; missing < 3; missing++) {
            ThreeClerks x = new ThreeClerks();
            Check.compiles(x, "open a", 0);
            x.seed((missing + 1) % 3, 1, 2);
            x.seed((missing + 2) % 3, 1, 2);
            for (int i : WRONG) {
                Check.badArgument("seed(" + i + ", 1, 2)", () -> x.seed(i, 1, 2));
            }
            Check.noState("run without seed " + missing, () -> x.run(0));
        }
    }
}
