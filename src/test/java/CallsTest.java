import java.util.List;
import java.util.Random;

/** All promises at once: many objects, each called 512 times in any order, with a plain model beside it. */
public final class CallsTest {
    private static final int OBJECTS = 400;
    private static final int CALLS = 512;
    private static final int[] INDEXES = {-1, 0, 1, 2, 3, 4, 5, 6, 7, 8, 15, 16, Integer.MAX_VALUE, Integer.MIN_VALUE};
    private static final int[] NUMBERS = {0, 1, -1, Integer.MAX_VALUE, Integer.MIN_VALUE, 1 << 16, 12345};
    private static final String[] STATEMENTS = {"a=$0", "b=$1-7", "c=a*b", "d=a<b", "e=d?a:c", "sort a c", "sums b e", "open a",
        "open b", "open c", "open d", "open e", "b=$6", "c=$7+a"};
    private static final String[] BETWEEN = {";", " ;", "; "};
    private static final String[] MOSTLY_WRONG = {";", " ", "#", "a=$9", "a=1000", "sort c a", "open", "$2"};
    private static int runs;
    private static int opened;

    private final Random random;
    private final ThreeClerks x = new ThreeClerks();
    private String text = "";
    private OpenReckoner script;
    private int place = -1;
    private final int[] inputs = new int[8];
    private int inputsSet;
    private int seedsSet;
    private List<Long> outputs = List.of();

    private CallsTest(int number) {
        random = new Random(number);
    }

    public static void main(String[] args) {
        Check.sentence("all promises: calls in any order");
        for (int number = 0; number < OBJECTS; number++) {
            CallsTest test = new CallsTest(number);
            for (int call = 0; call < CALLS; call++) {
                test.makeCall();
            }
        }
        System.out.println(runs + " runs, " + opened + " outputs");
        Check.holds("runs enough", runs > 5 * OBJECTS && opened > 10 * OBJECTS);
        Check.end();
    }

    private void makeCall() {
        int kind = random.nextInt(40);
        if (kind < 18) {
            write();
        } else if (kind == 18 || place >= 0 && random.nextInt(5) == 0) {
            wipe();
        } else if (kind < 22) {
            compile();
        } else if (kind < 24) {
            Check.same("place", place, x.place());
        } else if (kind < 28) {
            input(index(2), pick(NUMBERS));
        } else if (kind < 30) {
            seed(index(3));
        } else if (kind < 33) {
            run();
        } else {
            output(index(3));
        }
    }

    private int pick(int[] row) {
        return row[random.nextInt(row.length)];
    }

    /** Mostly one that there is, or that is wanted most. */
    private int index(int most) {
        return random.nextInt(3) == 0 ? pick(INDEXES) : random.nextInt(most);
    }

    private void wipe() {
        Check.same("wipe", text.length(), x.wipe());
        text = "";
    }

    private void write() {
        boolean first = text.isEmpty() || text.trim().endsWith(";");
        String[] pieces = random.nextInt(20) == 0 ? MOSTLY_WRONG : first ? STATEMENTS : BETWEEN;
        StringBuilder spread = new StringBuilder(pieces[random.nextInt(pieces.length)]);
        while (spread.length() < 8 && random.nextInt(3) == 0) {
            spread.insert(random.nextInt(spread.length() + 1), random.nextInt(30) == 0 ? '\u007f' : '\0');
        }
        String added = spread.toString().replace("\0", "");
        boolean due = added.indexOf('\u007f') < 0 && text.length() + added.length() <= 120;
        Check.same("write of <" + added + "> behind <" + text + ">", due ? 1 : 0, x.write(Check.pack(spread.toString())) ? 1 : 0);
        if (due) {
            text += added;
        }
    }

    private void compile() {
        OpenReckoner read = new OpenReckoner(text);
        place = read.place;
        if (place >= 0) {
            Check.badArgument("compile of <" + text + ">", x::compile);
            return;
        }
        Check.same("compile of <" + text + ">", read.comparisons, x.compile());
        script = read;
        text = "";
    }

    private void input(int i, int v) {
        if (i < 0 || i > 7) {
            Check.badArgument("input(" + i + ", " + v + ")", () -> x.input(i, v));
            return;
        }
        x.input(i, v);
        inputs[i] = v;
        inputsSet |= 1 << i;
    }

    private void seed(int i) {
        if (i < 0 || i > 2) {
            Check.badArgument("seed(" + i + ")", () -> x.seed(i, 4, 5));
            return;
        }
        x.seed(i, pick(NUMBERS), random.nextInt());
        seedsSet |= 1 << i;
    }

    private void run() {
        int turns = random.nextBoolean() ? pick(NUMBERS) : random.nextInt();
        boolean missing = script == null || seedsSet != 7;
        if (!missing) {
            for (int i : script.named) {
                missing |= (inputsSet >> i & 1) == 0;
            }
        }
        if (missing) {
            Check.noState("run(" + turns + ")", () -> x.run(turns));
            return;
        }
        outputs = script.reckon(inputs);
        Check.same("run(" + turns + ")", outputs.size(), x.run(turns));
        runs++;
        opened += outputs.size();
    }

    private void output(int i) {
        if (i < 0 || i >= outputs.size()) {
            Check.noIndex("output(" + i + ")", () -> x.output(i));
            return;
        }
        Check.same("output(" + i + ")", outputs.get(i).intValue(), x.output(i));
    }
}
