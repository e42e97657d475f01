/** Promise 9. */
public final class OutputTest {
    public static void main(String[] args) {
        ThreeClerks x = Check.seeded();
        Check.noIndex("output(0) before a run", () -> x.output(0));
        Check.compiles(x, "a=4;open a;a=0-4;open a;open b", 0);
        Check.noIndex("output(0) of a script that has not run", () -> x.output(0));
        Check.opens(x, 0, 4, -4, 0);
        for (int i : new int[] {-1, 3, 4, 15, 16, 17, Integer.MAX_VALUE, Integer.MIN_VALUE}) {
            Check.noIndex("output(" + i + ")", () -> x.output(i));
        }
        Check.has(x, 4, -4, 0);

        Check.compiles(x, "a=6;open a", 0);
        Check.has(x, 4, -4, 0);
        Check.opens(x, 0, 6);
        Check.noIndex("an output from before", () -> x.output(1));

        Check.compiles(x, "a=6", 0);
        Check.opens(x, 0);
        Check.noIndex("output(0) of a script that opens none", () -> x.output(0));

        Check.compiles(x, "open a;".repeat(15) + "open a", 0);
        Check.opens(x, 0, new int[16]);
        Check.noIndex("output(16)", () -> x.output(16));
        Check.end();
    }
}
