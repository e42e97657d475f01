/** Promise 3. */
public final class WipeTest {
    public static void main(String[] args) {
        makesEmpty();
        howMany();
        emptyText();
        fullText();
        nothingElseChanges();
        Check.end();
    }

    private static void makesEmpty() {
        Check.sentence("Makes the text empty");
        ThreeClerks x = Check.seeded();
        Check.write(x, "open z=");
        x.wipe();
        Check.refuses(x, "", 0);
        Check.compiles(x, "a=5;open a", 0);
        Check.opens(x, 3, 5);
    }

    private static void howMany() {
        Check.sentence("how many characters it had");
        for (int count = 0; count <= 120; count++) {
            ThreeClerks x = new ThreeClerks();
            Check.writeBlanks(x, count);
            Check.same("wipe of " + count, count, x.wipe());
        }
        ThreeClerks x = new ThreeClerks();
        Check.write(x, "open a; open b");
        Check.same("wipe", 14, x.wipe());
        x.write(Check.pack("a\0b"));
        Check.holds("a refused one", !x.write(Check.pack("cd\n")));
        Check.same("wipe counts what was added", 2, x.wipe());
    }

    private static void emptyText() {
        Check.sentence("wipe of an empty text");
        ThreeClerks x = new ThreeClerks();
        Check.same("wipe of a new one", 0, x.wipe());
        Check.same("wipe again", 0, x.wipe());
        Check.write(x, "a");
        Check.same("wipe", 1, x.wipe());
        Check.same("wipe of a wiped one", 0, x.wipe());
        Check.write(x, "open a");
        x.compile();
        Check.same("wipe after compile", 0, x.wipe());
    }

    private static void fullText() {
        Check.sentence("wipe of a full text");
        ThreeClerks x = Check.seeded();
        Check.write(x, "#".repeat(120));
        Check.holds("it is full", !x.write('#'));
        Check.same("wipe", 120, x.wipe());
        // All of the room is there again, and nothing of the old text in it.
        Check.compiles(x, "a=a+1;".repeat(19) + "open a", 0);
        Check.opens(x, 3, 19);
    }

    private static void nothingElseChanges() {
        Check.sentence("wipe: the text alone");
        ThreeClerks x = Check.seeded();
        x.input(2, 4);
        Check.compiles(x, "a=$2;open a", 0);
        Check.opens(x, 3, 4);
        Check.write(x, "#");
        Check.badArgument("compile", x::compile);
        Check.same("wipe of what is no script", 1, x.wipe());
        Check.same("place stays", 0, x.place());
        Check.has(x, 4);
        Check.opens(x, 4, 4);
    }
}
