/** Promise 1. */
public final class NewObjectTest {
    public static void main(String[] args) {
        ThreeClerks x = new ThreeClerks();
        Check.same("place", -1, x.place());
        Check.same("wipe", 0, x.wipe());
        Check.noIndex("output(0)", () -> new ThreeClerks().output(0));
        noScript();
        noSeeds();
        noInputs();
        Check.refuses(x, "", 0);
        twoObjectsShareNothing();
        Check.end();
    }

    private static void noScript() {
        ThreeClerks x = Check.seeded();
        for (int i = 0; i < 8; i++) {
            x.input(i, i);
        }
        Check.noState("run without a script", () -> x.run(0));
    }

    private static void noSeeds() {
        ThreeClerks x = new ThreeClerks();
        Check.compiles(x, "open a", 0);
        Check.noState("run without seeds", () -> x.run(0));
    }

    private static void noInputs() {
        for (int i = 0; i < 8; i++) {
            ThreeClerks x = Check.seeded();
            for (int j = 0; j < 8; j++) {
                if (j != i) {
                    x.input(j, 1);
                }
            }
            Check.compiles(x, "a=$" + i, 0);
            Check.noState("run without input " + i, () -> x.run(0));
            x.input(i, 0);
            Check.opens(x, 0);
        }
    }

    private static void twoObjectsShareNothing() {
        ThreeClerks x = Check.seeded();
        x.input(0, 5);
        Check.compiles(x, "a=$0;open a", 0);
        Check.opens(x, 1, 5);
        Check.write(x, "abc");
        ThreeClerks y = new ThreeClerks();
        Check.same("wipe of the other", 0, y.wipe());
        Check.noIndex("output of the other", () -> y.output(0));
        Check.noState("run of the other", () -> y.run(1));
        Check.has(x, 5);
        Check.same("wipe", 3, x.wipe());
    }
}
