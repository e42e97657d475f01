/** Promise 2. */
public final class WriteTest {
    public static void main(String[] args) {
        counts();
        order();
        zeros();
        codes();
        limit();
        Check.end();
    }

    private static void counts() {
        ThreeClerks x = new ThreeClerks();
        Check.holds("one character", x.write('a'));
        Check.same("wipe", 1, x.wipe());
        Check.holds("eight characters", x.write(Check.pack("a = b+12")));
        Check.holds("none", x.write(0));
        Check.same("wipe", 8, x.wipe());
    }

    private static void order() {
        ThreeClerks x = Check.seeded();
        x.write(Check.pack("a=12"));
        x.write(Check.pack("3;open a"));
        Check.same("compile", 0, x.compile());
        Check.opens(x, 0, 123);
    }

    private static void zeros() {
        ThreeClerks x = Check.seeded();
        Check.holds("zeros between", x.write(Check.pack("\0a\0=\0\0" + "7\0")));
        Check.holds("zeros before", x.write(Check.pack("\0\0;o\0pe\0")));
        Check.holds("zero in front", x.write(Check.pack("\0n a")));
        Check.same("compile", 0, x.compile());
        Check.opens(x, 0, 7);
    }

    private static void codes() {
        for (int code = 1; code < 256; code++) {
            ThreeClerks x = new ThreeClerks();
            for (int at = 0; at < 8; at++) {
                boolean due = code >= 32 && code <= 126;
                long others = 0x6161616161616161L & ~(255L << (8 * at));
                Check.same("write of code " + code + " at " + at, due ? 1 : 0, x.write(others | (long) code << (8 * at)) ? 1 : 0);
                Check.same("wipe", due ? 8 : 0, x.wipe());
            }
        }
        ThreeClerks x = new ThreeClerks();
        Check.holds("minus one", !x.write(-1L));
        Check.same("wipe", 0, x.wipe());
        Check.write(x, "a=1");
        Check.holds("a bad one behind good ones", !x.write(Check.pack("0;\n")));
        Check.same("compile adds nothing", 0, x.compile());
        Check.same("place", -1, x.place());
    }

    private static void limit() {
        ThreeClerks x = new ThreeClerks();
        for (int i = 0; i < 14; i++) {
            Check.holds("write", x.write(Check.pack("        ")));
        }
        Check.holds("to 117", x.write(Check.pack("     ")));
        Check.holds("to 121", !x.write(Check.pack("    ")));
        Check.holds("to 125", !x.write(Check.pack("        ")));
        Check.holds("to 120", x.write(Check.pack("  \0 ")));
        Check.holds("to 121", !x.write(' '));
        Check.holds("none more", x.write(0));
        Check.holds("a bad one", !x.write(200));
        Check.same("wipe", 120, x.wipe());
        Check.holds("anew", x.write(' '));
        Check.same("wipe", 1, x.wipe());
    }
}
