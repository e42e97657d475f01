/** Promise 9. */
public final class OutputTest {
    public static void main(String[] args) {
        outputI();
        noneBeforeARun();
        noneThere();
        noneOfAScriptThatOpensNone();
        noneFromBefore();
        Check.end();
    }

    private static void outputI() {
        Check.sentence("Output i");
        ThreeClerks x = Check.seeded();
        StringBuilder script = new StringBuilder("open a");
        int[] due = new int[10];
        for (int i = 1; i < 10; i++) {
            script.append(";a=").append(i * i).append(";open a");
            due[i] = i * i;
        }
        Check.compiles(x, script.toString(), 0);
        Check.opens(x, 0, due);
        for (int again = 0; again < 3; again++) {
            Check.same("output(9)", 81, x.output(9));
            Check.same("output(0)", 0, x.output(0));
        }
    }

    private static void noneBeforeARun() {
        Check.sentence("Index out of bounds: there is none, before a run");
        ThreeClerks x = Check.seeded();
        Check.noIndex("output(0)", () -> x.output(0));
        Check.compiles(x, "open a", 0);
        Check.noIndex("output(0) of a script that has not run", () -> x.output(0));
        Check.compiles(x, "a=$0;open a", 0);
        Check.noState("run", () -> x.run(0));
        Check.noIndex("output(0) of a run that was refused", () -> x.output(0));
    }

    private static void noneThere() {
        Check.sentence("Index out of bounds: there is none");
        ThreeClerks x = Check.seeded();
        for (int count = 1; count <= 16; count++) {
            Check.compiles(x, "open a;".repeat(count - 1) + "open a", 0);
            Check.opens(x, 0, new int[count]);
            for (int i : new int[] {-1, count, count + 1, 15 + count, 256, Integer.MAX_VALUE, Integer.MIN_VALUE}) {
                Check.noIndex("output(" + i + ") of " + count, () -> x.output(i));
            }
        }
        Check.has(x, new int[16]);
    }

    private static void noneOfAScriptThatOpensNone() {
        Check.sentence("Index out of bounds: there is none, as the script opens none");
        ThreeClerks x = Check.seeded();
        Check.compiles(x, "a=6", 0);
        Check.opens(x, 0);
        Check.noIndex("output(0)", () -> x.output(0));
    }

    private static void noneFromBefore() {
        Check.sentence("Index out of bounds: there is none any more");
        ThreeClerks x = Check.seeded();
        Check.compiles(x, "a=4;open a;a=0-4;open a;open b", 0);
        Check.opens(x, 0, 4, -4, 0);
        Check.compiles(x, "a=6;open a", 0);
        Check.has(x, 4, -4, 0);
        Check.opens(x, 0, 6);
        Check.noIndex("output(1)", () -> x.output(1));
        Check.noIndex("output(2)", () -> x.output(2));
    }
}
