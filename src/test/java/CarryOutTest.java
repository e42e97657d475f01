/** The section Terms, as far as it says what it is to carry a script out. */
public final class CarryOutTest {
    private static final int[] NONE = {};
    private static final int TOP = Integer.MIN_VALUE;
    private static final int MOST = -1;

    public static void main(String[] args) {
        numbers();
        zeroAtFirst();
        oneAfterTheOther();
        plus();
        minus();
        times();
        less();
        odd();
        sort();
        sortLeavesOthers();
        sums();
        sumsLeaveOthers();
        open();
        Check.end();
    }

    private static void numbers() {
        Check.sentence("NUMBERS are 0 .. 4294967295; an int stands for the number that has its 32 bits");
        int[] edges = {0, 1, Integer.MAX_VALUE, TOP, MOST, MOST - 1, 0x55555555, 0xAAAAAAAA};
        for (int number : edges) {
            Check.reckons("a=$0;open a;b=a;open b;c=$0+0;open c", new int[] {number}, number, number, number);
        }
    }

    private static void zeroAtFirst() {
        Check.sentence("all registers hold 0 at first");
        ThreeClerks x = Check.seeded();
        for (char r = 'a'; r <= 'z'; r++) {
            Check.compiles(x, "open " + r + ";" + r + "=5;open " + r, 0);
            Check.opens(x, 0, 0, 5);
            Check.opens(x, 1, 0, 5);
        }
    }

    private static void oneAfterTheOther() {
        Check.sentence("its statements are done one after the other");
        Check.reckons("a=3;a=a*a;a=a-a;open a;a=a-1;open a", NONE, 0, MOST);
        Check.reckons("a=1;b=a;a=2;open a;open b", NONE, 2, 1);
        Check.reckons("a=5;b=6;c=a;a=b;b=c;open a;open b", NONE, 6, 5);
        Check.reckons("b=9;sort a b;sums a b;a=b<9;open a;b=b?1:2;open b", NONE, 0, 1);
    }

    private static void plus() {
        Check.sentence("+ by 32 bits, cutting what is above");
        String script = "a=$0+$1;open a;b=$1;b=b+$0;open b";
        Check.reckons(script, new int[] {MOST, 1}, 0, 0);
        Check.reckons(script, new int[] {TOP, TOP}, 0, 0);
        Check.reckons(script, new int[] {Integer.MAX_VALUE, 1}, TOP, TOP);
        Check.reckons(script, new int[] {MOST, MOST}, -2, -2);
        Check.reckons("a=12+34;open a;a=a+a;open a", NONE, 46, 92);
    }

    private static void minus() {
        Check.sentence("- by 32 bits, cutting what is above");
        String script = "a=$0-$1;open a;b=$1;b=b-$0;open b";
        Check.reckons(script, new int[] {0, 1}, MOST, 1);
        Check.reckons(script, new int[] {0, TOP}, TOP, TOP);
        Check.reckons(script, new int[] {MOST, MOST}, 0, 0);
        Check.reckons(script, new int[] {-5, 12}, -17, 17);
        Check.reckons("b=5-999;open b", NONE, -994);
    }

    private static void times() {
        Check.sentence("* by 32 bits, cutting what is above");
        String script = "a=$0*$1;open a;b=$1;b=b*$0;open b";
        Check.reckons(script, new int[] {1 << 16, 1 << 16}, 0, 0);
        Check.reckons(script, new int[] {MOST, MOST}, 1, 1);
        Check.reckons(script, new int[] {TOP, 3}, TOP, TOP);
        Check.reckons(script, new int[] {0, MOST}, 0, 0);
        Check.reckons(script, new int[] {0x12345679, 0x7654321F}, 0x12345679 * 0x7654321F, 0x12345679 * 0x7654321F);
        Check.reckons("a=999*999;open a;a=a*a;open a", NONE, 998001, 998001 * 998001);
    }

    private static void less() {
        Check.sentence("x < y is 1 if the number x is less, else 0");
        int[] edges = {0, 1, 2, Integer.MAX_VALUE - 1, Integer.MAX_VALUE, TOP, TOP + 1, -2, MOST, 0x55555555, 0xAAAAAAAA, 1 << 16};
        for (int p : edges) {
            ThreeClerks x = Check.seeded();
            Check.compiles(x, "a=$0<$1;open a;b=$1;b=b<$0;open b;c=b<b;open c", 3);
            for (int q : edges) {
                x.input(0, p);
                x.input(1, q);
                int order = Integer.compareUnsigned(p, q);
                Check.opens(x, p, order < 0 ? 1 : 0, order > 0 ? 1 : 0, 0);
            }
        }
        Check.reckons("a=1<2;open a;a=2<1;open a;a=2<2;open a;a=0<0;open a", NONE, 1, 0, 0, 0);
    }

    private static void odd() {
        Check.sentence("x ? y : z is y if x is odd, else z");
        int[] edges = {0, 1, 2, 3, Integer.MAX_VALUE, TOP, TOP + 1, MOST, -2};
        for (int x : edges) {
            Check.reckons("a=$0?$1:$2;open a;b=$0;b=b?b:7;open b", new int[] {x, TOP, 1000},
                (x & 1) == 1 ? TOP : 1000, (x & 1) == 1 ? x : 7);
        }
        Check.reckons("a=1;a=a?a:a;open a;b=0?1:a;open b;b=2?7:b;open b;c=999?5:6;open c", NONE, 1, 1, 1, 5);
    }

    private static void sort() {
        Check.sentence("sort: the numbers of these registers stand in rising order in them");
        String five = "a=$0;b=$1;c=$2;d=$3;e=$4;sort a e;open a;open b;open c;open d;open e";
        Check.reckons(five, new int[] {MOST, 5, TOP, 0, 5}, 0, 5, 5, TOP, MOST);
        Check.reckons(five, new int[] {5, 4, 3, 2, 1}, 1, 2, 3, 4, 5);
        Check.reckons(five, new int[] {1, 2, 3, 4, 5}, 1, 2, 3, 4, 5);
        Check.reckons(five, new int[] {MOST, MOST, MOST, MOST, MOST}, MOST, MOST, MOST, MOST, MOST);
        Check.reckons(five, new int[] {2, 3, 4, 5, 1}, 1, 2, 3, 4, 5);
        for (int order = 0; order < 256; order++) {
            int[] row = {order & 3, order >> 2 & 3, order >> 4 & 3, order >> 6};
            int[] due = row.clone();
            java.util.Arrays.sort(due);
            Check.reckons("a=$0;b=$1;c=$2;d=$3;sort a d;open a;open b;open c;open d", row, due);
        }
    }

    private static void sortLeavesOthers() {
        Check.sentence("sort: of these registers (both and those between)");
        Check.reckons("a=9;b=8;c=7;d=6;sort b c;open a;open b;open c;open d", NONE, 9, 7, 8, 6);
        Check.reckons("a=9;b=8;c=7;sort a b;open a;open b;open c", NONE, 8, 9, 7);
        Check.reckons("x=9;y=8;z=7;sort y z;open x;open y;open z;open a", NONE, 9, 7, 8, 0);
        Check.reckons("u=9;v=8;z=1;sort v z;open u;open v;open w;open y;open z", NONE, 9, 0, 0, 1, 8);
    }

    private static void sums() {
        Check.sentence("sums: each of these registers gets the sum of what it and those before it in the row held");
        String five = "a=$0;b=$1;c=$2;d=$3;e=$4;sums a e;open a;open b;open c;open d;open e";
        Check.reckons(five, new int[] {1, 10, 100, 1000, 10000}, 1, 11, 111, 1111, 11111);
        Check.reckons(five, new int[] {MOST, 5, TOP, 10, TOP}, MOST, 4, TOP + 4, TOP + 14, 14);
        Check.reckons("a=1;b=2;sums a b;sums a b;open a;open b", NONE, 1, 4);
    }

    private static void sumsLeaveOthers() {
        Check.sentence("sums: those before it in the row, and no others");
        Check.reckons("a=1;b=2;c=4;d=8;sums b c;open a;open b;open c;open d", NONE, 1, 2, 6, 8);
        Check.reckons("x=4;y=1;z=2;sums y z;open x;open y;open z;open a", NONE, 4, 1, 3, 0);
        Check.reckons("u=9;v=1;z=1;sums v z;open u;open v;open w;open y;open z", NONE, 9, 1, 1, 1, 2);
    }

    private static void open() {
        Check.sentence("open: the number is the next one of the OUTPUTS");
        Check.reckons("a=1;open a;a=2;open a;open a;b=3;open b;a=4", NONE, 1, 2, 2, 3);
        Check.reckons("open z;z=$0;open z;open y", new int[] {MOST}, 0, MOST, 0);
        ThreeClerks x = Check.seeded();
        Check.compiles(x, "a=1;" + "open a;".repeat(15) + "open a", 0);
        Check.opens(x, 0, 1, 1, 1, 1, 1, 1, 1, 1, 1, 1, 1, 1, 1, 1, 1, 1);
    }
}
