/** Promise 6. */
public final class InputTest {
    public static void main(String[] args) {
        setsInput();
        setAnew();
        forTheRunsToCome();
        wrongIndex();
        wrongIndexSetsNothing();
        Check.end();
    }

    private static void setsInput() {
        Check.sentence("Sets input i");
        int[] values = {0, 1, -1, Integer.MAX_VALUE, Integer.MIN_VALUE, 1000, -77, 1 << 16};
        StringBuilder script = new StringBuilder();
        for (int i = 0; i < 8; i++) {
            script.append(i == 0 ? "" : ";").append("a=$").append(i).append(";open a");
        }
        Check.reckons(script.toString(), values, values);
    }

    private static void setAnew() {
        Check.sentence("also anew");
        ThreeClerks x = Check.seeded();
        for (int i = 0; i < 8; i++) {
            x.input(i, 12);
        }
        for (int i = 0; i < 8; i++) {
            Check.compiles(x, "a=$" + i + ";b=$" + (i + 1) % 8 + ";open a;open b", 0);
            x.input(i, 0);
            x.input(i, -12);
            x.input((i + 1) % 8, 12);
            Check.opens(x, 1, -12, 12);
        }
    }

    private static void forTheRunsToCome() {
        Check.sentence("for the runs to come");
        ThreeClerks x = Check.seeded();
        x.input(3, 10);
        Check.compiles(x, "a=$3*$3;open a", 0);
        Check.opens(x, 0, 100);
        Check.opens(x, 1, 100);
        x.input(3, 11);
        Check.has(x, 100);
        Check.opens(x, 0, 121);
        Check.opens(x, 1, 121);
        Check.compiles(x, "b=$3;open b", 0);
        Check.opens(x, 1, 11);
    }

    private static void wrongIndex() {
        Check.sentence("Illegal argument: i is not 0 .. 7");
        ThreeClerks x = new ThreeClerks();
        for (int i : new int[] {-1, 8, 9, 16, 26, -8, 256, Integer.MAX_VALUE, Integer.MIN_VALUE}) {
            Check.badArgument("input(" + i + ", 3)", () -> x.input(i, 3));
        }
        for (int i = 0; i < 8; i++) {
            x.input(i, 3);
        }
    }

    private static void wrongIndexSetsNothing() {
        Check.sentence("i is not 0 .. 7: none is set, and none anew");
        int[] wrong = {-1, 8, 15, -8, Integer.MAX_VALUE, Integer.MIN_VALUE};
        for (int i = 0; i < 8; i++) {
            ThreeClerks x = Check.seeded();
            Check.compiles(x, "a=$" + i + ";open a", 0);
            for (int w : wrong) {
                Check.badArgument("input(" + w + ", 9)", () -> x.input(w, 9));
            }
            Check.noState("run without input " + i, () -> x.run(0));
            x.input(i, 5);
            Check.opens(x, 0, 5);
            for (int w : wrong) {
                Check.badArgument("input(" + w + ", 9)", () -> x.input(w, 9));
            }
            Check.has(x, 5);
            Check.opens(x, 1, 5);
        }
    }
}
