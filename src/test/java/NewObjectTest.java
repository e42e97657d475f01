/** Promise 1. */
public final class NewObjectTest {
    public static void main(String[] args) {
        noInput();
        noSeed();
        noScript();
        emptyText();
        noOutputs();
        twoObjectsShareNothing();
        Check.end();
    }

    private static void noInput() {
        Check.sentence("No input is set");
        for (int i = 0; i < 8; i++) {
            ThreeClerks x = Check.seeded();
            for (int j = 0; j < 8; j++) {
                if (j != i) {
                    x.input(j, 1);
                }
            }
            Check.compiles(x, "a=$" + i, 0);
            Check.noState("run without input " + i, () -> x.run(0));
            x.input(i, 0);
            Check.opens(x, 0);
        }
    }

    private static void noSeed() {
        Check.sentence("no seed is set");
        for (int i = 0; i < 3; i++) {
            ThreeClerks x = new ThreeClerks();
            Check.compiles(x, "open a", 0);
            Check.noState("run without seeds", () -> x.run(0));
            x.seed((i + 1) % 3, 0, 0);
            x.seed((i + 2) % 3, 0, 0);
            Check.noState("run without seed " + i, () -> x.run(0));
            x.seed(i, 0, 0);
            Check.opens(x, 0, 0);
        }
    }

    private static void noScript() {
        Check.sentence("there is no script");
        ThreeClerks x = Check.seeded();
        for (int i = 0; i < 8; i++) {
            x.input(i, i);
        }
        Check.noState("run without a script", () -> x.run(0));
        Check.write(x, "open a");
        Check.noState("run with a text alone", () -> x.run(0));
    }

    private static void emptyText() {
        Check.sentence("the text is empty");
        Check.same("wipe", 0, new ThreeClerks().wipe());
        Check.refuses(new ThreeClerks(), "", 0);
        Check.compiles(new ThreeClerks(), "a=b;".repeat(29) + "a=12", 0);
    }

    private static void noOutputs() {
        Check.sentence("there are no outputs");
        for (int i : new int[] {-1, 0, 1, 15}) {
            Check.noIndex("output(" + i + ")", () -> new ThreeClerks().output(i));
        }
    }

    private static void twoObjectsShareNothing() {
        Check.sentence("A new object, with another one beside it");
        ThreeClerks x = Check.seeded();
        x.input(0, 5);
        Check.compiles(x, "a=$0;open a", 0);
        Check.opens(x, 1, 5);
        Check.write(x, "abc");
        Check.badArgument("compile", x::compile);
        ThreeClerks y = new ThreeClerks();
        Check.same("place of the other", -1, y.place());
        Check.same("wipe of the other", 0, y.wipe());
        Check.noIndex("output of the other", () -> y.output(0));
        Check.setSeeds(y);
        Check.noState("run of the other", () -> y.run(1));
        Check.compiles(y, "a=$0;open a", 0);
        Check.noState("run of the other without input", () -> y.run(1));
        Check.has(x, 5);
        Check.same("place", 0, x.place());
        Check.same("wipe", 3, x.wipe());
    }
}
