import java.util.List;
import java.util.Random;

/** All promises at once: many texts, each read and reckoned by the clerks and openly. */
public final class OpenlyTest {
    private static final int TEXTS = 30000;
    private static final String WRONG = "=+-*<?:;$ #A09az";
    private static final int[] EDGES = {0, 1, -1, Integer.MIN_VALUE, Integer.MAX_VALUE, 2, -2, 65536};
    private static final Random random = new Random(20261115);
    private static int scripts;
    private static int outputs;

    public static void main(String[] args) {
        for (int n = 0; n < TEXTS; n++) {
            String text = text();
            compare(n % 3 == 0 ? text : spoil(text));
        }
        System.out.println(scripts + " scripts and " + (TEXTS - scripts) + " other texts, " + outputs + " outputs");
        Check.holds("scripts enough", scripts > TEXTS / 4 && scripts < TEXTS * 3 / 4 && outputs > TEXTS);
        Check.end();
    }

    private static void compare(String text) {
        OpenReckoner due = new OpenReckoner(text);
        ThreeClerks x = new ThreeClerks();
        Check.compiles(x, "z=3;open z", 0);
        for (int i = 0; i < 3; i++) {
            x.seed(i, random.nextInt(), random.nextInt());
        }
        Check.opens(x, random.nextInt(), 3);
        if (due.place >= 0) {
            Check.refuses(x, text, due.place);
            Check.opens(x, random.nextInt(), 3);
            return;
        }
        scripts++;
        Check.compiles(x, text, due.comparisons);
        int[] inputs = new int[8];
        for (int i : due.named) {
            Check.noState("run of <" + text + "> without input " + i, () -> x.run(1));
            inputs[i] = number();
            x.input(i, inputs[i]);
        }
        Check.has(x, 3);
        for (int again = 0; again < 2; again++) {
            List<Long> numbers = due.reckon(inputs);
            outputs += numbers.size();
            Check.opens(x, random.nextInt(), numbers.stream().mapToInt(Long::intValue).toArray());
            if (!due.named.isEmpty()) {
                inputs[due.named.first()] = number();
                x.input(due.named.first(), inputs[due.named.first()]);
            }
        }
    }

    private static int number() {
        return random.nextInt(3) == 0 ? EDGES[random.nextInt(EDGES.length)] : random.nextInt();
    }

    /** Statements as long as they fit; most of these texts are scripts. */
    private static String text() {
        StringBuilder text = new StringBuilder();
        int most = 1 + random.nextInt(120);
        for (int n = 0; n < 30; n++) {
            String more = (n == 0 ? "" : blank() + ";" + blank()) + statement();
            if (text.length() + more.length() > most) {
                break;
            }
            text.append(more);
        }
        return text.toString();
    }

    private static String statement() {
        int kind = random.nextInt(16);
        if (kind < 4) {
            return "open " + blank() + register();
        }
        if (kind < 6) {
            char first = register();
            char last = (char) (first + random.nextInt(kind == 4 ? 4 : 6));
            return (kind == 4 ? "sort " : "sums ") + first + " " + blank() + (char) Math.min(last, 'z');
        }
        String begin = register() + blank() + "=" + blank() + value();
        if (kind < 9) {
            return begin;
        }
        if (kind == 9) {
            return begin + blank() + "?" + value() + blank() + ":" + value();
        }
        return begin + blank() + "+-*<*<".charAt(kind - 10) + blank() + value();
    }

    private static char register() {
        return (char) (random.nextInt(8) == 0 ? 'a' + random.nextInt(26) : 'a' + random.nextInt(5));
    }

    private static String value() {
        int kind = random.nextInt(8);
        if (kind == 0) {
            return "" + random.nextInt(1000);
        }
        return kind < 4 ? "$" + blank() + random.nextInt(8) : "" + register();
    }

    private static String blank() {
        return random.nextInt(12) == 0 ? " " : "";
    }

    /** Takes out, puts in or changes a few characters. */
    private static String spoil(String text) {
        StringBuilder spoilt = new StringBuilder(text);
        for (int n = random.nextInt(3); n >= 0; n--) {
            int at = random.nextInt(spoilt.length() + 1);
            char c = WRONG.charAt(random.nextInt(WRONG.length()));
            if (at < spoilt.length() && random.nextBoolean()) {
                spoilt.deleteCharAt(at);
            }
            if (spoilt.length() < 120 && random.nextBoolean()) {
                spoilt.insert(Math.min(at, spoilt.length()), c);
            }
        }
        return spoilt.toString();
    }
}
