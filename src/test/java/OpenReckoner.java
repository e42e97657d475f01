import java.util.ArrayList;
import java.util.Arrays;
import java.util.List;
import java.util.TreeSet;
import java.util.regex.Matcher;
import java.util.regex.Pattern;

/** Reads and reckons a script openly, straight from the document, as a measure for the clerks. */
final class OpenReckoner {
    private static final Pattern TOKEN = Pattern.compile("[a-z]+|[0-9]+|[^ ]");

    /** The token at which a text turns out to be no script. */
    private static final class NoScript extends RuntimeException {
        private static final long serialVersionUID = 1L;
    }

    private final List<String> tokens = new ArrayList<>();
    private final List<Integer> begins = new ArrayList<>();
    private final List<String[]> statements = new ArrayList<>();
    final TreeSet<Integer> named = new TreeSet<>();
    int at;
    int comparisons;
    int opens;
    int place = -1;

    OpenReckoner(String text) {
        Matcher matcher = TOKEN.matcher(text);
        while (matcher.find()) {
            tokens.add(matcher.group());
            begins.add(matcher.start());
        }
        tokens.add("");
        begins.add(text.length());
        try {
            script();
        } catch (NoScript e) {
            place = begins.get(at);
        }
    }

    private void script() {
        statement();
        while (tokens.get(at).equals(";")) {
            at++;
            statement();
        }
        need(tokens.get(at).isEmpty());
    }

    private void need(boolean holds) {
        if (!holds) {
            throw new NoScript();
        }
    }

    private void statement() {
        String word = tokens.get(at);
        if (word.equals("open")) {
            need(++opens <= 16);
            at++;
            statements.add(new String[] {word, register()});
        } else if (word.equals("sort") || word.equals("sums")) {
            at++;
            String first = register();
            need(tokens.get(at).matches("[a-z]"));
            int apart = tokens.get(at).charAt(0) - first.charAt(0);
            need(apart >= 1 && apart <= 4);
            if (word.equals("sort")) {
                compared(apart * (apart + 1) / 2);
            }
            statements.add(new String[] {word, first, register()});
        } else {
            assignment(register());
        }
    }

    private void assignment(String target) {
        need(tokens.get(at).equals("="));
        at++;
        String first = value();
        String op = tokens.get(at);
        if (!op.matches("[-+*<?]")) {
            statements.add(new String[] {"=", target, first});
            return;
        }
        if (op.matches("[<?]")) {
            compared(1);
        }
        at++;
        String second = value();
        String third = "";
        if (op.equals("?")) {
            need(tokens.get(at).equals(":"));
            at++;
            third = value();
        }
        statements.add(new String[] {op, target, first, second, third});
    }

    private void compared(int more) {
        comparisons += more;
        need(comparisons <= 12);
    }

    private String register() {
        need(tokens.get(at).matches("[a-z]"));
        return tokens.get(at++);
    }

    private String value() {
        if (tokens.get(at).equals("$")) {
            at++;
            need(tokens.get(at).matches("[0-9]{1,3}") && Integer.parseInt(tokens.get(at)) <= 7);
            int i = Integer.parseInt(tokens.get(at++));
            named.add(i);
            return "$" + i;
        }
        need(tokens.get(at).matches("[a-z]|[0-9]{1,3}"));
        return tokens.get(at++);
    }

    /** The outputs, each 0 .. 4294967295. */
    List<Long> reckon(int[] inputs) {
        long[] registers = new long[26];
        List<Long> outputs = new ArrayList<>();
        for (String[] statement : statements) {
            int target = statement[1].charAt(0) - 'a';
            switch (statement[0]) {
                case "open" -> outputs.add(registers[target]);
                case "sort" -> Arrays.sort(registers, target, statement[2].charAt(0) - 'a' + 1);
                case "sums" -> {
                    long sum = 0;
                    for (int r = target; r <= statement[2].charAt(0) - 'a'; r++) {
                        sum = cut(sum + registers[r]);
                        registers[r] = sum;
                    }
                }
                default -> registers[target] = result(statement, registers, inputs);
            }
        }
        return outputs;
    }

    private static long result(String[] statement, long[] registers, int[] inputs) {
        long x = number(statement[2], registers, inputs);
        if (statement[0].equals("=")) {
            return x;
        }
        long y = number(statement[3], registers, inputs);
        return switch (statement[0]) {
            case "+" -> cut(x + y);
            case "-" -> cut(x - y);
            case "*" -> cut(x * y);
            case "<" -> x < y ? 1 : 0;
            default -> x % 2 == 1 ? y : number(statement[4], registers, inputs);
        };
    }

    private static long number(String value, long[] registers, int[] inputs) {
        if (value.startsWith("$")) {
            return cut(inputs[Integer.parseInt(value.substring(1))]);
        }
        char c = value.charAt(0);
        return c >= 'a' ? registers[c - 'a'] : Long.parseLong(value);
    }

    private static long cut(long number) {
        return number & 0xFFFFFFFFL;
    }
}
