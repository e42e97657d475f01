/** Promise 6. */
public final class InputTest {
    public static void main(String[] args) {
        wrongOnes();
        allOfThem();
        setAnew();
        Check.end();
    }

    private static void wrongOnes() {
        ThreeClerks x = Check.seeded();
        for (int i : new int[] {-1, 8, 9, 26, Integer.MAX_VALUE, Integer.MIN_VALUE}) {
            Check.badArgument("input(" + i + ", 3)", () -> x.input(i, 3));
        }
        Check.compiles(x, "a=$0;b=$7", 0);
        Check.noState("a wrong input sets none", () -> x.run(0));
    }

    private static void allOfThem() {
        int[] values = {0, 1, -1, Integer.MAX_VALUE, Integer.MIN_VALUE, 1000, -77, 1 << 16};
        StringBuilder script = new StringBuilder();
        for (int i = 0; i < 8; i++) {
            script.append(i == 0 ? "" : ";").append("a=$").append(i).append(";open a");
        }
        Check.reckons(script.toString(), values, values);
    }

    private static void setAnew() {
        ThreeClerks x = Check.seeded();
        x.input(3, 10);
        Check.compiles(x, "a=$3*$3;open a", 0);
        Check.opens(x, 0, 100);
        x.input(3, 11);
        Check.has(x, 100);
        Check.opens(x, 0, 121);
        Check.badArgument("input(8, 5)", () -> x.input(8, 5));
        Check.opens(x, 1, 121);
        x.input(3, 12);
        x.input(3, -12);
        Check.opens(x, 1, 144);
        Check.compiles(x, "b=$3;open b", 0);
        Check.opens(x, 1, -12);
    }
}
