/** Promise 8, and what it is to carry a script out. */
public final class RunTest {
    private static final int[] NONE = {};
    private static final int TOP = Integer.MIN_VALUE;

    public static void main(String[] args) {
        reckoning();
        comparing();
        choosing();
        sorting();
        summing();
        opening();
        missing();
        again();
        turns();
        Check.end();
    }

    private static void reckoning() {
        Check.reckons("a=7;open a;b=a;open b", NONE, 7, 7);
        Check.reckons("open a;open z", NONE, 0, 0);
        Check.reckons("a=$0+$1;open a;a=$0-$1;open a;a=$0*$1;open a", new int[] {-5, 12}, 7, -17, -60);
        Check.reckons("a=$0+$0;open a;b=$0*$0;open b;c=0-$0;open c", new int[] {TOP}, 0, 0, TOP);
        Check.reckons("a=$0*$1;open a", new int[] {0x12345679, 0x7654321F}, 0x12345679 * 0x7654321F);
        Check.reckons("a=3;a=a*a;a=a-a;open a;a=a-1;open a", NONE, 0, -1);
        Check.reckons("a=12*34;open a;b=5-999;open b;c=1+2;open c", NONE, 408, -994, 3);
    }

    private static void comparing() {
        int[] edges = {0, 1, 2, Integer.MAX_VALUE - 1, Integer.MAX_VALUE, TOP, TOP + 1, -2, -1, 0x55555555, 0xAAAAAAAA, 1 << 16};
        for (int p : edges) {
            ThreeClerks x = Check.seeded();
            Check.compiles(x, "a=$0<$1;open a;b=$1;b=b<$0;open b;c=b<b;open c", 3);
            for (int q : edges) {
                x.input(0, p);
                x.input(1, q);
                int less = Integer.compareUnsigned(p, q);
                Check.opens(x, p, less < 0 ? 1 : 0, less > 0 ? 1 : 0, 0);
            }
        }
    }

    private static void choosing() {
        int[] inputs = {3, 2, -1, TOP, 1000};
        Check.reckons("a=$0?4:5;open a;a=$1?4:5;open a", inputs, 4, 5);
        Check.reckons("a=$2?$3:$4;open a;a=$3?$3:$4;open a", inputs, TOP, 1000);
        Check.reckons("a=1;a=a?a:a;open a;b=0?1:a;open b;b=2?7:b;open b", NONE, 1, 1, 1);
    }

    private static void sorting() {
        int[] inputs = {-1, 5, TOP, 0, 5};
        Check.reckons("a=$0;b=$1;c=$2;d=$3;e=$4;sort a e;open a;open b;open c;open d;open e", inputs, 0, 5, 5, TOP, -1);
        Check.reckons("a=$0;b=$1;c=$2;d=$3;sort b c;open a;open b;open c;open d", inputs, -1, 5, TOP, 0);
        Check.reckons("y=9;z=8;sort y z;open y;open z;open x", NONE, 8, 9, 0);
        String load = "a=$0;b=$1;c=$2;d=$3;";
        for (int order = 0; order < 256; order++) {
            int[] row = {order & 3, order >> 2 & 3, order >> 4 & 3, order >> 6};
            int[] due = row.clone();
            java.util.Arrays.sort(due);
            Check.reckons(load + "sort a d;open a;open b;open c;open d", row, due);
        }
    }

    private static void summing() {
        int[] inputs = {-1, 5, TOP, 10, 100};
        Check.reckons("a=$0;b=$1;c=$2;d=$3;e=$4;sums a e;open a;open b;open c;open d;open e", inputs,
            -1, 4, TOP + 4, TOP + 14, TOP + 114);
        Check.reckons("a=1;b=2;c=4;d=8;sums b c;open a;open b;open c;open d", NONE, 1, 2, 6, 8);
        Check.reckons("y=1;z=2;sums y z;open y;open z;open a", NONE, 1, 3, 0);
    }

    private static void opening() {
        ThreeClerks x = Check.seeded();
        Check.compiles(x, "a=1;open a;a=2;open a;a=a;a=3", 0);
        Check.opens(x, 0, 1, 2);
        Check.compiles(x, "open a;".repeat(15) + "open a", 0);
        Check.opens(x, 0, new int[16]);
        Check.compiles(x, "a=1", 0);
        Check.opens(x, 0);
    }

    private static void missing() {
        ThreeClerks x = new ThreeClerks();
        Check.noState("nothing is there", () -> x.run(1));
        Check.setSeeds(x);
        Check.noState("no script", () -> x.run(1));
        Check.refuses(x, "open a;", 7);
        Check.noState("still no script", () -> x.run(1));
        Check.compiles(x, "a=8;open a", 0);
        Check.opens(x, 1, 8);
        for (String script : new String[] {"a=$3;a=0", "a=0*$3", "a=1?2:$3", "a=$3?1:1", "a=0?$3:0", "a=$3<0", "a=b-$3"}) {
            Check.write(x, script + ";a=5;open a");
            x.compile();
            Check.noState("input 3 of " + script, () -> x.run(1));
            Check.has(x, 8);
        }
        x.input(3, 0);
        Check.opens(x, 1, 5);
    }

    private static void again() {
        ThreeClerks x = Check.seeded();
        x.input(0, 6);
        Check.compiles(x, "b=b+1;a=a+$0;open a;open b", 0);
        for (int i = 0; i < 20; i++) {
            // Registers hold 0 at first in every run, and outputs do not pile up.
            Check.opens(x, i, 6, 1);
        }
    }

    private static void turns() {
        int[] edges = {0, -1, Integer.MAX_VALUE, Integer.MIN_VALUE};
        for (int i = 0; i < 200; i++) {
            int turns = i < 4 ? edges[i] : i < 36 ? 1 << i : i < 68 ? ~(1 << i) : i * 0x9E3779B1;
            ThreeClerks x = Check.seeded();
            x.input(0, -100);
            x.input(1, 100);
            Check.compiles(x, "a=$0;b=$1;c=7;d=a*b;open d;e=a<b;open e;e=b?a:c;open e;sort a d;open a;open b;open c;open d", 8);
            Check.opens(x, turns, -10000, 0, 7, 7, 100, -10000, -100);
            Check.opens(x, turns, -10000, 0, 7, 7, 100, -10000, -100);
        }
    }
}
