/** Promise 3. */
public final class WipeTest {
    public static void main(String[] args) {
        ThreeClerks x = Check.seeded();
        Check.same("wipe of a new one", 0, x.wipe());
        Check.write(x, "open a; open b");
        Check.same("wipe", 14, x.wipe());
        Check.same("wipe again", 0, x.wipe());
        Check.refuses(x, "", 0);

        Check.compiles(x, "a=4;open a", 0);
        Check.opens(x, 3, 4);
        Check.write(x, "#");
        Check.badArgument("compile", x::compile);
        Check.same("wipe of what is no script", 1, x.wipe());
        Check.same("place stays", 0, x.place());
        Check.has(x, 4);
        Check.opens(x, 4, 4);

        Check.write(x, "open z=");
        x.wipe();
        Check.compiles(x, "a=5;open a", 0);
        Check.opens(x, 3, 5);
        Check.end();
    }
}
