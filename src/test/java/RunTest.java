/** Promise 8; what it is to carry a script out stands in CarryOutTest. */
public final class RunTest {
    private static final String ALL_KINDS =
        "a=$0;b=$1;c=7;d=a*b;open d;e=a<b;open e;e=b?a:c;open e;sort a d;open a;open b;open c;open d";

    public static void main(String[] args) {
        howManyOutputs();
        fromBeforeAreGone();
        turnsMakeNoDifference();
        seedsMakeNoDifference();
        noScript();
        seedNotSet();
        namedInputNotSet();
        otherInputNotSet();
        outputsStay();
        again();
        Check.end();
    }

    private static void howManyOutputs() {
        Check.sentence("how many outputs there are then");
        ThreeClerks x = Check.seeded();
        Check.compiles(x, "a=1", 0);
        Check.opens(x, 0);
        for (int count = 1; count <= 16; count++) {
            Check.compiles(x, "open a;".repeat(count) + "a=1", 0);
            Check.opens(x, 0, new int[count]);
        }
    }

    private static void fromBeforeAreGone() {
        Check.sentence("those from before are gone");
        ThreeClerks x = Check.seeded();
        Check.compiles(x, "open a;".repeat(15) + "open a", 0);
        Check.opens(x, 0, new int[16]);
        Check.opens(x, 1, new int[16]);
        Check.compiles(x, "a=3;open a", 0);
        Check.opens(x, 0, 3);
        Check.opens(x, 1, 3);
        Check.compiles(x, "a=1", 0);
        Check.opens(x, 0);
        Check.noIndex("output(0)", () -> x.output(0));
    }

    private static void turnsMakeNoDifference() {
        Check.sentence("by turns, which makes no difference to the outputs");
        int[] edges = {0, -1, Integer.MAX_VALUE, Integer.MIN_VALUE};
        for (int i = 0; i < 200; i++) {
            int turns = i < 4 ? edges[i] : i < 36 ? 1 << i : i < 68 ? ~(1 << i) : i * 0x9E3779B1;
            ThreeClerks x = Check.seeded();
            x.input(0, -100);
            x.input(1, 100);
            Check.compiles(x, ALL_KINDS, 8);
            Check.opens(x, turns, -10000, 0, 7, 7, 100, -10000, -100);
            Check.opens(x, turns, -10000, 0, 7, 7, 100, -10000, -100);
        }
    }

    private static void seedsMakeNoDifference() {
        Check.sentence("no difference to the outputs, as the seeds don't");
        int[] edges = {0, 1, -1, Integer.MAX_VALUE, Integer.MIN_VALUE};
        for (int i = 0; i < 125; i++) {
            ThreeClerks x = new ThreeClerks();
            x.seed(0, edges[i % 5], edges[i / 5 % 5]);
            x.seed(1, edges[i / 5 % 5], edges[i / 25]);
            x.seed(2, edges[i / 25], edges[i % 5]);
            x.input(0, -100);
            x.input(1, 100);
            Check.compiles(x, ALL_KINDS, 8);
            Check.opens(x, i, -10000, 0, 7, 7, 100, -10000, -100);
        }
    }

    private static void noScript() {
        Check.sentence("Illegal state: there is no script");
        ThreeClerks x = new ThreeClerks();
        Check.noState("nothing is there", () -> x.run(1));
        Check.setSeeds(x);
        Check.noState("no script", () -> x.run(1));
        Check.refuses(x, "open a;", 7);
        Check.noState("still no script", () -> x.run(1));
        Check.compiles(x, "a=8;open a", 0);
        Check.opens(x, 1, 8);
        Check.refuses(x, "open a;", 7);
        Check.opens(x, 1, 8);
    }

    private static void seedNotSet() {
        Check.sentence("Illegal state: a seed is not set");
        for (int there = 0; there < 7; there++) {
            ThreeClerks x = new ThreeClerks();
            Check.compiles(x, "a=1", 0);
            for (int i = 0; i < 3; i++) {
                if ((there >> i & 1) == 1) {
                    x.seed(i, 5, 6);
                }
            }
            Check.noState("run with seeds " + there, () -> x.run(1));
            Check.noState("run again", () -> x.run(0));
            Check.setSeeds(x);
            Check.opens(x, 1);
        }
    }

    private static void namedInputNotSet() {
        Check.sentence("Illegal state: an input that the script names, wherever it stands");
        String[] scripts = {"a=$i", "a=$i;a=0", "a=0*$i", "a=$i*0", "a=$i-$i", "a=1?2:$i", "a=1?$i:2", "a=0?$i:2", "a=0?1:$i",
            "a=$i?1:1", "a=$i<0", "a=0<$i", "a=b+$i", "a=$i+b", "open a;a=$ i", "a=$i;open b", "a=$00i"};
        for (String script : scripts) {
            for (int i = 0; i < 8; i++) {
                String text = script.replace('i', (char) ('0' + i));
                ThreeClerks x = Check.seeded();
                Check.write(x, text);
                x.compile();
                Check.noState("<" + text + "> without inputs", () -> x.run(1));
                for (int other = 0; other < 8; other++) {
                    if (other != i) {
                        x.input(other, 1);
                    }
                }
                Check.noState("<" + text + "> without input " + i, () -> x.run(1));
                x.input(i, 0);
                Check.same("<" + text + ">", text.contains("open") ? 1 : 0, x.run(1));
            }
        }
        ThreeClerks x = Check.seeded();
        Check.compiles(x, "a=$0;b=$1;c=$2;d=$3;e=$4;f=$5;g=$6;h=$7;open h", 0);
        for (int i = 0; i < 8; i++) {
            Check.noState("run with " + i + " of eight inputs", () -> x.run(1));
            x.input(7 - i, i);
        }
        Check.opens(x, 1, 0);
    }

    private static void otherInputNotSet() {
        Check.sentence("an input that the script does not name may be missing");
        for (int i = 0; i < 8; i++) {
            ThreeClerks x = Check.seeded();
            x.input(i, 9);
            Check.compiles(x, "a=$" + i + ";open a", 0);
            Check.opens(x, 1, 9);
        }
        ThreeClerks x = Check.seeded();
        Check.compiles(x, "a=7;open a", 0);
        Check.opens(x, 1, 7);
    }

    private static void outputsStay() {
        Check.sentence("Illegal state (outputs stay)");
        ThreeClerks x = Check.seeded();
        Check.compiles(x, "a=8;open a;open b", 0);
        Check.opens(x, 1, 8, 0);
        Check.compiles(x, "open c;open c;a=$3;open a", 0);
        Check.noState("run", () -> x.run(1));
        Check.has(x, 8, 0);
        Check.noState("run again", () -> x.run(2));
        Check.has(x, 8, 0);
        x.input(3, -3);
        Check.has(x, 8, 0);
        Check.opens(x, 1, 0, 0, -3);
    }

    private static void again() {
        Check.sentence("Carries the script out, in every run anew");
        ThreeClerks x = Check.seeded();
        x.input(0, 6);
        Check.compiles(x, "b=b+1;a=a+$0;open a;open b", 0);
        for (int i = 0; i < 20; i++) {
            Check.opens(x, i, 6, 1);
        }
    }
}
