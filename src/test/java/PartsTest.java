import java.lang.reflect.Field;

/** What the document's first lines say: each clerk has parts of the numbers alone. */
public final class PartsTest {
    private static final int FIRST_INPUT = 26;

    public static void main(String[] args) throws ReflectiveOperationException {
        try {
            lookInside();
            Check.end();
        } catch (NoSuchFieldException e) {
            // How the state is held is free: what is held in another way is not judged here.
            System.out.println("another inside, which has no " + e.getMessage() + ": nothing was looked at");
        }
    }

    private static void lookInside() throws ReflectiveOperationException {
        int[] numbers = {0, 1, -1, 12345, Integer.MIN_VALUE};
        for (int number : numbers) {
            partsOf(number);
        }
        freshInEveryRun();
        hiddenPieces();
    }

    private static void partsOf(int number) throws ReflectiveOperationException {
        for (int seed = 0; seed < 50; seed++) {
            ThreeClerks x = new ThreeClerks();
            x.seed(0, seed, 0);
            x.seed(1, seed, 1);
            x.seed(2, seed, 2);
            x.input(0, number);
            Check.compiles(x, "a=$0;b=a*a;c=999-b;d=c<b;e=d?a:b;sort a e", 12);
            x.run(seed);
            int sum = 0;
            for (int i = 0; i < 3; i++) {
                int[] own = row(x, i, "own");
                int[] next = row(x, i, "next");
                int[] neighbour = row(x, (i + 1) % 3, "own");
                for (int slot = 0; slot < own.length; slot++) {
                    Check.same("the part that two clerks hold, slot " + slot, neighbour[slot], next[slot]);
                }
                Check.holds("no part is the number", own[FIRST_INPUT] != number && next[FIRST_INPUT] != number);
                Check.holds("no two parts make the number", own[FIRST_INPUT] + next[FIRST_INPUT] != number);
                sum += own[FIRST_INPUT];
            }
            Check.same("the three parts together", number, sum);
        }
    }

    /** With the same parts again, a clerk could tell how two inputs differ. */
    private static void freshInEveryRun() throws ReflectiveOperationException {
        ThreeClerks x = Check.seeded();
        x.input(0, 7);
        Check.compiles(x, "a=$0*$0", 0);
        x.run(1);
        int[][] before = {row(x, 0, "own").clone(), row(x, 1, "own").clone(), row(x, 2, "own").clone()};
        x.run(1);
        for (int i = 0; i < 3; i++) {
            int[] own = row(x, i, "own");
            Check.holds("another part of the input", own[FIRST_INPUT] != before[i][FIRST_INPUT]);
            Check.holds("another part of the product", own[0] != before[i][0]);
        }
    }

    /** All parts 1 and 2 would be 0 here, if what is sent were not hidden behind other words. */
    private static void hiddenPieces() throws ReflectiveOperationException {
        ThreeClerks x = Check.seeded();
        Check.compiles(x, "a=3*4;b=3<4", 1);
        x.run(1);
        for (int i = 1; i < 3; i++) {
            Check.holds("part " + i + " of a product is hidden", row(x, i, "own")[0] != 0);
            Object word = inside(inside(clerk(x, i), "comparison"), "word");
            Check.holds("part " + i + " of a comparison's bits is hidden", (long) inside(word, "own") != 0);
        }
    }

    private static int[] row(ThreeClerks x, int clerk, String name) throws ReflectiveOperationException {
        return (int[]) inside(clerk(x, clerk), name);
    }

    private static Object clerk(ThreeClerks x, int clerk) throws ReflectiveOperationException {
        return ((Object[]) inside(inside(x, "office"), "clerks"))[clerk];
    }

    private static Object inside(Object object, String name) throws ReflectiveOperationException {
        Field field = object.getClass().getDeclaredField(name);
        field.setAccessible(true);
        return field.get(object);
    }
}
