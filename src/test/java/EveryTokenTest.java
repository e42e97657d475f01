import java.util.Arrays;
import java.util.List;

/** Promise 5 and what a script is: every kind of token, at every place that a statement has. */
public final class EveryTokenTest {
    private static final String REGISTERS = "a b c d e f g h y z";
    private static final String VALUES = REGISTERS + " 0 7 8 9 07 007 008 10 999 $";
    private static final String OTHERS = "1000 0000 = + - * < ? : ; sort sums open ab sorts opena A Z # ! ~ > { `";
    private static final String[] TOKENS = (VALUES + " " + OTHERS).split(" ");
    private static final String[] BEFORE = {"", "  ", "a=1;", "open b ; "};

    public static void main(String[] args) {
        Check.sentence("the token that could not stand where it stood, by what stood before it");
        stand("", false, REGISTERS + " sort sums open");
        stand("a", false, "=");
        stand("a=", false, VALUES);
        for (String value : new String[] {"b", "5", "999", "$5"}) {
            stand("a=" + value, true, "+ - * < ? ;");
            stand("a=b?" + value, false, ":");
            stand("a=b?c:" + value, true, ";");
            for (char op : "+-*<".toCharArray()) {
                stand("a=" + value + op, false, VALUES);
                stand("a=b" + op + value, true, ";");
            }
        }
        stand("a=b?", false, VALUES);
        stand("a=b?c:", false, VALUES);
        for (String dollar : new String[] {"a=$", "a=b<$", "a=b?$", "a=b?c:$"}) {
            stand(dollar, false, "0 7 07 007");
        }
        rows();
        stand("open", false, REGISTERS);
        stand("open a", true, ";");
        stand("a=1;", false, REGISTERS + " sort sums open");
        Check.end();
    }

    private static void rows() {
        for (String word : new String[] {"sort", "sums"}) {
            stand(word, false, REGISTERS);
            stand(word + " a", false, "b c d e");
            stand(word + " b", false, "c d e f");
            stand(word + " c", false, "d e f g");
            stand(word + " y", false, "z");
            stand(word + " a e", true, ";");
        }
    }

    /** Behind the text its end may stand, if ends says so, and of all tokens these alone. */
    private static void stand(String text, boolean ends, String tokens) {
        List<String> may = Arrays.asList(tokens.split(" "));
        for (String before : BEFORE) {
            same(before + text, ends ? -1 : before.length() + text.length());
            for (String token : TOKENS) {
                String begin = before + text + " ";
                int place = place(begin + token);
                if (may.contains(token)) {
                    boolean stood = place == -1 || place == begin.length() + token.length();
                    Check.holds("<" + begin + token + ">: place " + place, stood);
                    same(begin + token + " #", begin.length() + token.length() + 1);
                } else {
                    Check.same("place after <" + begin + token + ">", begin.length(), place);
                    same(begin + token + " #", begin.length());
                }
            }
        }
    }

    private static void same(String text, int due) {
        Check.same("place after <" + text + ">", due, place(text));
    }

    /** What place tells of the text, on a new object. */
    private static int place(String text) {
        ThreeClerks x = new ThreeClerks();
        Check.write(x, text);
        try {
            x.compile();
            Check.same("place of a script", -1, x.place());
        } catch (IllegalArgumentException e) {
            Check.holds("no script has a place", x.place() >= 0);
        }
        return x.place();
    }
}
