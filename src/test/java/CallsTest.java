import java.util.List;
import java.util.Random;

/** All promises at once: many objects, each called 512 times in any order, with a plain model beside it. */
public final class CallsTest {
    private static final int OBJECTS = 400;
    private static final int CALLS = 512;
    private static final int[] INDEXES = {-1, 0, 1, 2, 3, 4, 5, 6, 7, 8, 15, 16, Integer.MAX_VALUE, Integer.MIN_VALUE};
    private static final int[] NUMBERS = {0, 1, -1, Integer.MAX_VALUE, Integer.MIN_VALUE, 1 << 16, 12345};
    private static final String[] PIECES = {"a=$0;", "b=$1-7;", "c=a*b;", "d=a<b;", "e=d?a:c;", "sort a c;", "sums b e;", "open a;",
        "open e;", "a=b", "open c", "sort d e", "a=a<c", "sort c a;", " ", "#", "$9", "1000"};

    private final Random random;
    private final ThreeClerks x = new ThreeClerks();
    private String text = "";
    private OpenReckoner script;
    private int place = -1;
    private final int[] inputs = new int[8];
    private int inputsSet;
    private int seedsSet;
    private List<Long> outputs = List.of();

    private CallsTest(int number) {
        random = new Random(number);
    }

    public static void main(String[] args) {
        Check.sentence("all promises: calls in any order");
        for (int number = 0; number < OBJECTS; number++) {
            CallsTest test = new CallsTest(number);
            for (int call = 0; call < CALLS; call++) {
                test.makeCall();
            }
        }
        Check.end();
    }

    private void makeCall() {
        int kind = random.nextInt(40);
        if (kind < 18) {
            write();
        } else if (kind == 18) {
            Check.same("wipe", text.length(), x.wipe());
            text = "";
        } else if (kind < 22) {
            compile();
        } else if (kind < 24) {
            Check.same("place", place, x.place());
        } else if (kind < 28) {
            input(pick(INDEXES), pick(NUMBERS));
        } else if (kind < 30) {
            seed(pick(INDEXES));
        } else if (kind < 33) {
            run();
        } else {
            output(pick(INDEXES));
        }
    }

    private int pick(int[] row) {
        return row[random.nextInt(row.length)];
    }

    private void write() {
        String piece = PIECES[random.nextInt(PIECES.length - (random.nextInt(8) == 0 ? 0 : 5))];
        StringBuilder spread = new StringBuilder(piece.substring(0, Math.min(8, piece.length())));
        while (spread.length() < 8 && random.nextInt(3) == 0) {
            spread.insert(random.nextInt(spread.length() + 1), random.nextInt(30) == 0 ? '\u007f' : '\0');
        }
        String added = spread.toString().replace("\0", "");
        boolean due = added.indexOf('\u007f') < 0 && text.length() + added.length() <= 120;
        Check.same("write of <" + added + "> behind <" + text + ">", due ? 1 : 0, x.write(Check.pack(spread.toString())) ? 1 : 0);
        if (due) {
            text += added;
        }
    }

    private void compile() {
        OpenReckoner read = new OpenReckoner(text);
        place = read.place;
        if (place >= 0) {
            Check.badArgument("compile of <" + text + ">", x::compile);
            return;
        }
        Check.same("compile of <" + text + ">", read.comparisons, x.compile());
        script = read;
        text = "";
    }

    private void input(int i, int v) {
        if (i < 0 || i > 7) {
            Check.badArgument("input(" + i + ", " + v + ")", () -> x.input(i, v));
            return;
        }
        x.input(i, v);
        inputs[i] = v;
        inputsSet |= 1 << i;
    }

    private void seed(int i) {
        if (i < 0 || i > 2) {
            Check.badArgument("seed(" + i + ")", () -> x.seed(i, 4, 5));
            return;
        }
        x.seed(i, pick(NUMBERS), random.nextInt());
        seedsSet |= 1 << i;
    }

    private void run() {
        int turns = random.nextBoolean() ? pick(NUMBERS) : random.nextInt();
        boolean missing = script == null || seedsSet != 7;
        if (!missing) {
            for (int i : script.named) {
                missing |= (inputsSet >> i & 1) == 0;
            }
        }
        if (missing) {
            Check.noState("run(" + turns + ")", () -> x.run(turns));
            return;
        }
        outputs = script.reckon(inputs);
        Check.same("run(" + turns + ")", outputs.size(), x.run(turns));
    }

    private void output(int i) {
        if (i < 0 || i >= outputs.size()) {
            Check.noIndex("output(" + i + ")", () -> x.output(i));
            return;
        }
        Check.same("output(" + i + ")", outputs.get(i).intValue(), x.output(i));
    }
}
