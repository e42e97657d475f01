/** Promise 2. */
public final class WriteTest {
    public static void main(String[] args) {
        upToEight();
        fromTheLowestOn();
        butForZeros();
        wrongCodes();
        wrongCodeAddsNothing();
        tooMany();
        tooManyAddNothing();
        nothingElseChanges();
        Check.end();
    }

    private static void upToEight() {
        Check.sentence("Adds up to eight characters to the text");
        ThreeClerks x = new ThreeClerks();
        int had = 0;
        for (int count = 0; count <= 8; count++) {
            Check.holds(count + " characters", x.write(Check.pack("a = b+12".substring(0, count))));
            had += count;
        }
        Check.same("wipe", had, x.wipe());
    }

    private static void fromTheLowestOn() {
        Check.sentence("the bytes of the long, from the lowest on");
        ThreeClerks x = Check.seeded();
        // Written out, so that it does not lean on how the tests pack their texts: a=107+20 and 6;open a.
        Check.holds("eight", x.write(0x30322B3730313D61L));
        Check.holds("eight more", x.write(0x61206E65706F3B36L));
        Check.same("compile", 0, x.compile());
        Check.opens(x, 0, 107 + 206);
    }

    private static void butForZeros() {
        Check.sentence("but for those that are 0");
        for (int kept = 0; kept < 256; kept++) {
            ThreeClerks x = new ThreeClerks();
            long characters = 0;
            for (int at = 0; at < 8; at++) {
                characters |= (kept >> at & 1) * ((long) "a1=$ ~;z".charAt(at) << (8 * at));
            }
            Check.holds("write of bytes " + kept, x.write(characters));
            Check.same("wipe after bytes " + kept, Integer.bitCount(kept), x.wipe());
        }
        ThreeClerks x = Check.seeded();
        Check.holds("zeros between", x.write(Check.pack("\0a\0=\0\0" + "7\0")));
        Check.holds("zeros before", x.write(Check.pack("\0\0;o\0pe\0")));
        Check.holds("the highest byte alone", x.write((long) 'n' << 56));
        Check.holds("none but zeros", x.write(0));
        Check.holds("zero in front", x.write(Check.pack("\0 a")));
        Check.same("compile", 0, x.compile());
        Check.opens(x, 0, 7);
    }

    private static void wrongCodes() {
        Check.sentence("False, if one is not 32 .. 126");
        for (int code = 1; code < 256; code++) {
            ThreeClerks x = new ThreeClerks();
            for (int at = 0; at < 8; at++) {
                boolean due = code >= 32 && code <= 126;
                long place = 255L << (8 * at);
                long one = (long) code << (8 * at);
                Check.same("write of code " + code + " alone at " + at, due ? 1 : 0, x.write(one) ? 1 : 0);
                Check.same("wipe", due ? 1 : 0, x.wipe());
                Check.same("write of code " + code + " among others at " + at, due ? 1 : 0,
                    x.write(0x6161616161616161L & ~place | one) ? 1 : 0);
                Check.same("wipe", due ? 8 : 0, x.wipe());
            }
        }
        for (long characters : new long[] {-1L, Long.MIN_VALUE, Long.MAX_VALUE, 1L, 0x8080808080808080L}) {
            ThreeClerks x = new ThreeClerks();
            Check.holds("write(" + characters + ") is refused", !x.write(characters));
            Check.same("wipe", 0, x.wipe());
        }
    }

    private static void wrongCodeAddsNothing() {
        Check.sentence("adding nothing, if one is not 32 .. 126");
        ThreeClerks x = Check.seeded();
        Check.write(x, "a=1");
        Check.holds("a wrong one last", !x.write(Check.pack("0;open\n")));
        Check.holds("a wrong one first", !x.write(Check.pack("\t0")));
        Check.holds("a wrong one between", !x.write(Check.pack("2\0\u007f3")));
        Check.write(x, ";open a");
        Check.same("compile", 0, x.compile());
        Check.opens(x, 0, 1);
    }

    private static void tooMany() {
        Check.sentence("False, or they would be more than 120");
        for (int had = 112; had <= 120; had++) {
            for (int more = 0; more <= 8; more++) {
                ThreeClerks x = new ThreeClerks();
                Check.writeBlanks(x, had);
                boolean due = had + more <= 120;
                Check.same("write of " + more + " behind " + had, due ? 1 : 0,
                    x.write(Check.pack("        ".substring(0, more))) ? 1 : 0);
                Check.same("wipe", due ? had + more : had, x.wipe());
            }
        }
        ThreeClerks x = new ThreeClerks();
        Check.writeBlanks(x, 116);
        Check.holds("bytes that are 0 do not count", x.write(Check.pack("\0 \0 \0 \0 ")));
        Check.holds("nothing fits into the full text", x.write(0));
        Check.holds("a wrong one at the full text", !x.write(200));
        Check.same("wipe", 120, x.wipe());
    }

    private static void tooManyAddNothing() {
        Check.sentence("adding nothing, or they would be more than 120");
        ThreeClerks x = Check.seeded();
        Check.writeBlanks(x, 107);
        Check.write(x, "a=4;open a");
        Check.holds("four where three fit", !x.write(Check.pack(";a=5")));
        Check.holds("eight where three fit", !x.write(Check.pack(";open a;")));
        Check.holds("a wrong one behind too many", !x.write(Check.pack(";a=5\n")));
        Check.same("compile", 0, x.compile());
        Check.opens(x, 0, 4);
        Check.holds("anew", x.write(Check.pack("open a;#")));
        Check.same("wipe", 8, x.wipe());
    }

    private static void nothingElseChanges() {
        Check.sentence("write: the text alone");
        ThreeClerks x = Check.seeded();
        Check.compiles(x, "a=4;open a", 0);
        Check.opens(x, 0, 4);
        Check.refuses(x, "a=1;#", 4);
        Check.write(x, "a=5;open a");
        Check.holds("a refused one", !x.write(-1));
        Check.has(x, 4);
        Check.same("place", 4, x.place());
        Check.opens(x, 1, 4);
    }
}
