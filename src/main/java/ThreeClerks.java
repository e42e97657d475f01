import java.util.Arrays;

/**
 * Reckons with numbers that no one of three clerks knows.
 *
 * Each number is the sum, by 32 bits, of the parts 0, 1 and 2; clerk i holds part i (its own) and
 * part i + 1 (the next one, counted round), so that each clerk lacks one part of every number.
 * Sums need no message. For a product every clerk reckons a piece of it out of what it holds, hides
 * the piece behind pads that cancel out over the three, and sends it to the clerk before it. Bits
 * are held in the same way, with exclusive or in place of the sum and "and" in place of the product.
 */
public final class ThreeClerks {
    private static final int MOST_CHARACTERS = 120;
    private static final int LOWEST_CODE = 32;
    private static final int HIGHEST_CODE = 126;
    private static final int CLERKS = 3;
    private static final int REGISTERS = 26;
    private static final int INPUTS = 8;
    private static final int MOST_OPENED = 16;
    private static final int MOST_COMPARISONS = 12;
    /** Operands: registers first, inputs behind them, and from here on the numbers of the script. */
    private static final int FIRST_NUMBER = REGISTERS + INPUTS;
    /** Messages of one run are numbered from 1 and stay far below this, so pads are never used twice. */
    private static final int FIRST_DEALT = 1 << 30;
    private static final long LOW_HALF = 0xFFFFFFFFL;

    private final char[] text = new char[MOST_CHARACTERS];
    private int length;
    private final Reader reader = new Reader();
    private final Script script = new Script();
    private boolean scriptThere;
    private int wrongAt = -1;
    private final int[] inputs = new int[INPUTS];
    private final boolean[] inputSet = new boolean[INPUTS];
    private final long[] keys = new long[CLERKS];
    private final boolean[] keySet = new boolean[CLERKS];
    private final Office office = new Office();
    private final int[] outputs = new int[MOST_OPENED];
    private int outputCount;
    private int runs;

    public ThreeClerks() {
    }

    public boolean write(long characters) {
        int added = 0;
        for (int i = 0; i < 8; i++) {
            int code = (int) (characters >>> (8 * i)) & 255;
            if (code == 0) {
                continue;
            }
            if (code < LOWEST_CODE || code > HIGHEST_CODE || length + added >= MOST_CHARACTERS) {
                return false;
            }
            // What stands behind the length is no part of the text, so a refusal has nothing to undo.
            text[length + added] = (char) code;
            added++;
        }
        length += added;
        return true;
    }

    public int wipe() {
        int had = length;
        length = 0;
        return had;
    }

    public int compile() throws IllegalArgumentException {
        if (!reader.readScript(text, length)) {
            wrongAt = reader.tokenBegin();
            throw new IllegalArgumentException("the text is no script");
        }
        script.copy(reader.draft());
        scriptThere = true;
        wrongAt = -1;
        length = 0;
        return script.comparisons;
    }

    public int place() {
        return wrongAt;
    }

    public void input(int i, int v) throws IllegalArgumentException {
        if (i < 0 || i >= INPUTS) {
            throw new IllegalArgumentException("there is no such input");
        }
        inputs[i] = v;
        inputSet[i] = true;
    }

    public void seed(int i, int a, int b) throws IllegalArgumentException {
        if (i < 0 || i >= CLERKS) {
            throw new IllegalArgumentException("there is no such seed");
        }
        keys[i] = Pads.key(i, a, b);
        keySet[i] = true;
    }

    public int run(int turns) throws IllegalStateException {
        if (!scriptThere || !seedsSet() || !namedInputsSet()) {
            throw new IllegalStateException("a script, a seed or an input is missing");
        }
        runs++;
        office.prepare(script, keys, runs);
        dealInputs();
        office.carryOut(turns);
        outputCount = office.copyOpened(outputs);
        return outputCount;
    }

    public int output(int i) throws IndexOutOfBoundsException {
        if (i < 0 || i >= outputCount) {
            throw new IndexOutOfBoundsException("there is no such output");
        }
        return outputs[i];
    }

    private boolean seedsSet() {
        for (int i = 0; i < CLERKS; i++) {
            if (!keySet[i]) {
                return false;
            }
        }
        return true;
    }

    private boolean namedInputsSet() {
        for (int i = 0; i < INPUTS; i++) {
            if (script.names(i) && !inputSet[i]) {
                return false;
            }
        }
        return true;
    }

    /** Two parts come from keys that the clerk who lacks the part does not have; the third is the rest. */
    private void dealInputs() {
        for (int i = 0; i < INPUTS; i++) {
            if (script.names(i)) {
                int part0 = (int) Pads.pad(keys[0], runs, FIRST_DEALT + i);
                int part1 = (int) Pads.pad(keys[1], runs, FIRST_DEALT + i);
                office.deal(REGISTERS + i, part0, part1, inputs[i] - part0 - part1);
            }
        }
    }

    /** What a script asks, as a row of tasks that all three clerks know. */
    private static final class Script {
        static final int COPY = 0;
        static final int ADD = 1;
        static final int SUBTRACT = 2;
        static final int MULTIPLY = 3;
        static final int LESS = 4;
        static final int CHOOSE = 5;
        static final int SWAP = 6;
        static final int OPEN = 7;
        /** Only sort makes more tasks than characters, and no more of them than comparisons. */
        private static final int MOST_TASKS = MOST_CHARACTERS + MOST_COMPARISONS;

        final int[] kinds = new int[MOST_TASKS];
        final int[] targets = new int[MOST_TASKS];
        final int[] firsts = new int[MOST_TASKS];
        final int[] seconds = new int[MOST_TASKS];
        final int[] thirds = new int[MOST_TASKS];
        int count;
        int comparisons;
        int opens;
        /** A bit for each input that the script names, the lowest one for input 0. */
        private int named;

        void clear() {
            count = 0;
            comparisons = 0;
            opens = 0;
            named = 0;
        }

        void copy(Script from) {
            count = from.count;
            comparisons = from.comparisons;
            opens = from.opens;
            named = from.named;
            System.arraycopy(from.kinds, 0, kinds, 0, count);
            System.arraycopy(from.targets, 0, targets, 0, count);
            System.arraycopy(from.firsts, 0, firsts, 0, count);
            System.arraycopy(from.seconds, 0, seconds, 0, count);
            System.arraycopy(from.thirds, 0, thirds, 0, count);
        }

        void add(int kind, int target, int first, int second, int third) {
            if (count >= MOST_TASKS) {
                return;
            }
            kinds[count] = kind;
            targets[count] = target;
            firsts[count] = first;
            seconds[count] = second;
            thirds[count] = third;
            count++;
        }

        void name(int input) {
            named |= 1 << input;
        }

        boolean names(int input) {
            return (named >>> input & 1) == 1;
        }

        boolean takeComparisons(int more) {
            if (comparisons + more > MOST_COMPARISONS) {
                return false;
            }
            comparisons += more;
            return true;
        }

        boolean takeOpen() {
            if (opens >= MOST_OPENED) {
                return false;
            }
            opens++;
            return true;
        }

        /** Which swaps come is the same for all numbers, so the order of the swaps tells nothing. */
        void addSort(int first, int last) {
            for (int end = last; end > first; end--) {
                for (int register = first; register < end; register++) {
                    add(SWAP, register, register, register + 1, 0);
                }
            }
        }

        void addSums(int first, int last) {
            for (int register = first + 1; register <= last; register++) {
                add(ADD, register, register - 1, register, 0);
            }
        }
    }

    /** The text as a row of tokens, the last one being its end. */
    private static final class Tokens {
        static final int END = 0;
        static final int REGISTER = 1;
        static final int NUMBER = 2;
        static final int SIGN = 3;
        static final int SORT = 4;
        static final int SUMS = 5;
        static final int OPEN = 6;
        /** Other words, numbers that are too long, and characters that begin no token. */
        static final int WRONG = 7;
        private static final int MOST_DECIMALS = 3;
        private static final String SIGNS = "=+-*<?:;$";

        private final char[] text = new char[MOST_CHARACTERS];
        final int[] kinds = new int[MOST_CHARACTERS + 1];
        final int[] begins = new int[MOST_CHARACTERS + 1];
        /** The register, the number, or the sign's character. */
        final int[] values = new int[MOST_CHARACTERS + 1];
        private int count;

        void scan(char[] from, int length) {
            System.arraycopy(from, 0, text, 0, length);
            count = 0;
            int position = 0;
            while (position < length) {
                int end = text[position] == ' ' ? position + 1 : scanToken(position, length);
                position = Math.max(position + 1, end);
            }
            add(END, length, 0);
        }

        private void add(int kind, int begin, int value) {
            if (count < kinds.length) {
                kinds[count] = kind;
                begins[count] = begin;
                values[count] = value;
                count++;
            }
        }

        /** Answers where the token ends. */
        private int scanToken(int begin, int length) {
            char character = text[begin];
            if (isLetter(character)) {
                return scanWord(begin, length);
            }
            if (isDecimal(character)) {
                return scanNumber(begin, length);
            }
            add(SIGNS.indexOf(character) >= 0 ? SIGN : WRONG, begin, character);
            return begin + 1;
        }

        private int scanWord(int begin, int length) {
            int end = begin + 1;
            while (end < length && isLetter(text[end])) {
                end++;
            }
            int kind = WRONG;
            if (end == begin + 1) {
                kind = REGISTER;
            } else if (isWord("sort", begin, end)) {
                kind = SORT;
            } else if (isWord("sums", begin, end)) {
                kind = SUMS;
            } else if (isWord("open", begin, end)) {
                kind = OPEN;
            }
            add(kind, begin, text[begin] - 'a');
            return end;
        }

        private int scanNumber(int begin, int length) {
            int number = 0;
            int end = begin;
            while (end < length && isDecimal(text[end])) {
                number = 10 * number + text[end] - '0';
                end++;
            }
            add(end - begin <= MOST_DECIMALS ? NUMBER : WRONG, begin, number);
            return end;
        }

        private boolean isWord(String word, int begin, int end) {
            if (end - begin != word.length()) {
                return false;
            }
            for (int i = 0; i < word.length(); i++) {
                if (text[begin + i] != word.charAt(i)) {
                    return false;
                }
            }
            return true;
        }

        private static boolean isLetter(char character) {
            return character >= 'a' && character <= 'z';
        }

        private static boolean isDecimal(char character) {
            return character >= '0' && character <= '9';
        }
    }

    /** Reads a text as a script; it stops at the first token that could not stand where it stood. */
    private static final class Reader {
        private static final int NO_VALUE = -1;
        private static final int MOST_LETTERS_APART = 4;

        private final Tokens tokens = new Tokens();
        /** Apart from the script that is there, which stays if the text turns out to be none. */
        private final Script draft = new Script();
        /** The token at hand; no step goes on from the last one, so it is always in the row. */
        private int at;

        Script draft() {
            return draft;
        }

        int tokenBegin() {
            return tokens.begins[at];
        }

        boolean readScript(char[] text, int length) {
            tokens.scan(text, length);
            draft.clear();
            at = 0;
            for (int statements = 0; statements <= length; statements++) {
                if (!readStatement()) {
                    return false;
                }
                if (is(Tokens.END)) {
                    return true;
                }
                if (!takeSign(';')) {
                    return false;
                }
            }
            return false;
        }

        private boolean readStatement() {
            switch (tokens.kinds[at]) {
                case Tokens.SORT:
                    return readRow(true);
                case Tokens.SUMS:
                    return readRow(false);
                case Tokens.OPEN:
                    return readOpen();
                case Tokens.REGISTER:
                    return readAssignment();
                default:
                    return false;
            }
        }

        private boolean readRow(boolean sorting) {
            at++;
            if (!is(Tokens.REGISTER)) {
                return false;
            }
            int first = take();
            if (!endsRowFrom(first)) {
                return false;
            }
            int registers = tokens.values[at] - first + 1;
            if (sorting && !draft.takeComparisons(registers * (registers - 1) / 2)) {
                return false;
            }
            int last = take();
            if (sorting) {
                draft.addSort(first, last);
            } else {
                draft.addSums(first, last);
            }
            return true;
        }

        private boolean readOpen() {
            if (!draft.takeOpen()) {
                return false;
            }
            at++;
            if (!is(Tokens.REGISTER)) {
                return false;
            }
            draft.add(Script.OPEN, 0, take(), 0, 0);
            return true;
        }

        private boolean readAssignment() {
            int target = take();
            if (!takeSign('=')) {
                return false;
            }
            int first = readValue();
            if (first == NO_VALUE) {
                return false;
            }
            if (isSign('?')) {
                return readChoice(target, first);
            }
            int kind = kindOfSign();
            if (kind != Script.COPY) {
                return readSecond(kind, target, first);
            }
            draft.add(kind, target, first, 0, 0);
            return true;
        }

        private boolean readSecond(int kind, int target, int first) {
            if (kind == Script.LESS && !draft.takeComparisons(1)) {
                return false;
            }
            at++;
            int second = readValue();
            if (second == NO_VALUE) {
                return false;
            }
            draft.add(kind, target, first, second, 0);
            return true;
        }

        private boolean readChoice(int target, int first) {
            if (!draft.takeComparisons(1)) {
                return false;
            }
            at++;
            int second = readValue();
            if (second == NO_VALUE || !takeSign(':')) {
                return false;
            }
            int third = readValue();
            if (third == NO_VALUE) {
                return false;
            }
            draft.add(Script.CHOOSE, target, first, second, third);
            return true;
        }

        /** Reads a value as an operand; at NO_VALUE the token at hand is the one that is wrong. */
        private int readValue() {
            if (is(Tokens.REGISTER)) {
                return take();
            }
            if (is(Tokens.NUMBER)) {
                return FIRST_NUMBER + take();
            }
            if (!takeSign('$') || !is(Tokens.NUMBER) || tokens.values[at] >= INPUTS) {
                return NO_VALUE;
            }
            int input = take();
            draft.name(input);
            return REGISTERS + input;
        }

        /** COPY where no operator stands. */
        private int kindOfSign() {
            if (isSign('+')) {
                return Script.ADD;
            }
            if (isSign('-')) {
                return Script.SUBTRACT;
            }
            if (isSign('*')) {
                return Script.MULTIPLY;
            }
            return isSign('<') ? Script.LESS : Script.COPY;
        }

        private boolean is(int kind) {
            return tokens.kinds[at] == kind;
        }

        private int take() {
            int value = tokens.values[at];
            at++;
            return value;
        }

        private boolean isSign(char sign) {
            return tokens.kinds[at] == Tokens.SIGN && tokens.values[at] == sign;
        }

        private boolean takeSign(char sign) {
            if (!isSign(sign)) {
                return false;
            }
            at++;
            return true;
        }

        private boolean endsRowFrom(int first) {
            int apart = tokens.values[at] - first;
            return is(Tokens.REGISTER) && apart >= 1 && apart <= MOST_LETTERS_APART;
        }
    }

    /** What one clerk holds of a number, or of a word of bits: its own part and the next one. */
    private static final class Parts {
        private final int who;
        long own;
        long next;

        Parts(int who) {
            this.who = who;
        }

        void set(long newOwn, long newNext) {
            own = newOwn;
            next = newNext;
        }

        void copy(Parts from) {
            own = from.own;
            next = from.next;
        }

        /** A number that all know: part 0 is all of it. */
        void setKnown(long number) {
            own = who == 0 ? number : 0;
            next = who == CLERKS - 1 ? number : 0;
        }

        void add(Parts other, long times) {
            own += times * other.own;
            next += times * other.next;
        }

        void xor(Parts other) {
            own ^= other.own;
            next ^= other.next;
        }

        void and(long bits) {
            own &= bits;
            next &= bits;
        }

        /** Turns over bits that all know: in part 0 alone. */
        void flip(long bits) {
            if (who == 0) {
                own ^= bits;
            }
            if (who == CLERKS - 1) {
                next ^= bits;
            }
        }

        /** Makes all parts but one 0: what is left is a number by itself, held in parts. */
        void keep(int part) {
            if (who != part) {
                own = 0;
            }
            if ((who + 1) % CLERKS != part) {
                next = 0;
            }
        }

        void drop(int part) {
            if (who == part) {
                own = 0;
            }
            if ((who + 1) % CLERKS == part) {
                next = 0;
            }
        }

        void shiftDown(int places) {
            own >>>= places;
            next >>>= places;
        }

        /** Moves both halves up by 1 .. 16 places, each by itself. */
        void raiseHalves(int places) {
            long kept = ~(((1L << places) - 1) << 32);
            own = (own << places) & kept;
            next = (next << places) & kept;
        }

        /** Puts the high half in the low one too. */
        void doubleHighHalf() {
            own = (own >>> 32) | (own & ~LOW_HALF);
            next = (next >>> 32) | (next & ~LOW_HALF);
        }
    }

    /**
     * Words that hide what a clerk sends. Each is made of a key that the clerk's neighbour has too,
     * so that all that is put on by the three falls away when their pieces come together.
     */
    private static final class Pads {
        private static final long STRIDE = 0x9E3779B97F4A7C15L;

        private long ownKey;
        private long nextKey;
        private int runs;

        void set(long newOwnKey, long newNextKey, int newRuns) {
            ownKey = newOwnKey;
            nextKey = newNextKey;
            runs = newRuns;
        }

        /** The three clerks' words for one message have the sum 0. */
        long difference(int number) {
            return pad(ownKey, runs, number) - pad(nextKey, runs, number);
        }

        /** The three clerks' words for one message have the exclusive or 0. */
        long xor(int number) {
            return pad(ownKey, runs, number) ^ pad(nextKey, runs, number);
        }

        /** The seed's number goes in, so that equal seeds are not equal keys and do not cancel out. */
        static long key(int i, int a, int b) {
            return (((long) a << 32) | (b & LOW_HALF)) + i * STRIDE;
        }

        /** The key goes in before, between and behind: a pad that comes to be known does not tell it. */
        static long pad(long key, int runs, int number) {
            long nonce = ((long) runs << 32) | number;
            return mix(mix(nonce ^ key) + Long.rotateLeft(key, 29)) ^ Long.rotateLeft(key, 47);
        }

        private static long mix(long word) {
            long mixed = (word ^ (word >>> 30)) * 0xBF58476D1CE4E5B9L;
            mixed = (mixed ^ (mixed >>> 27)) * 0x94D049BB133111EBL;
            return mixed ^ (mixed >>> 31);
        }
    }

    /**
     * Whether one number is less than another, as a row of "and"s of words of bits. The two numbers
     * stand in the halves of one word: first their parts are summed up bit by bit, then the borrow
     * of the difference is followed up to the highest bit.
     */
    private static final class Comparison {
        private static final int CARRY = 0;
        private static final int MEET = 1;
        private static final int SPREAD_MADE = 2;
        private static final int SPREAD_PASSED = 3;
        private static final int BORROW = 4;
        private static final int SPREAD_BORROW = 5;
        private static final int DONE = 6;
        private static final int LONGEST_REACH = 16;

        private final Parts word;
        /** Where a carry is made within reach. */
        private final Parts made;
        /** Where a carry is passed on all through the reach. */
        private final Parts passed;
        private int stage = DONE;
        private int reach;

        Comparison(int who) {
            word = new Parts(who);
            made = new Parts(who);
            passed = new Parts(who);
        }

        void begin(Parts x, Parts y) {
            word.set(halves(x.own, y.own), halves(x.next, y.next));
            stage = CARRY;
        }

        private static long halves(long low, long high) {
            return (low & LOW_HALF) | (high << 32);
        }

        boolean isDone() {
            return stage == DONE;
        }

        void giveResult(Parts bit) {
            bit.copy(word);
            bit.shiftDown(31);
            bit.and(1);
        }

        /** Tells the two words of the next "and". */
        void ask(Parts left, Parts right) {
            switch (stage) {
                case CARRY:
                    // The carry of three bits a, b, c is ((a ^ c) & (b ^ c)) ^ c.
                    left.copy(word);
                    left.drop(1);
                    right.copy(word);
                    right.drop(0);
                    break;
                case MEET:
                    left.copy(word);
                    right.copy(made);
                    break;
                case SPREAD_MADE:
                    left.copy(passed);
                    right.copy(made);
                    right.raiseHalves(reach);
                    break;
                case SPREAD_PASSED:
                    left.copy(passed);
                    right.copy(passed);
                    right.raiseHalves(reach);
                    break;
                case BORROW:
                    left.copy(word);
                    left.and(LOW_HALF);
                    left.flip(LOW_HALF);
                    right.copy(word);
                    right.shiftDown(32);
                    break;
                default:
                    left.copy(word);
                    left.doubleHighHalf();
                    right.copy(word);
                    right.raiseHalves(reach);
                    break;
            }
        }

        void accept(Parts product) {
            switch (stage) {
                case CARRY:
                    acceptCarry(product);
                    break;
                case MEET:
                    made.copy(product);
                    word.copy(passed);
                    reach = 1;
                    stage = SPREAD_MADE;
                    break;
                case SPREAD_MADE:
                    acceptMade(product);
                    break;
                case SPREAD_PASSED:
                    passed.copy(product);
                    reach *= 2;
                    stage = SPREAD_MADE;
                    break;
                case BORROW:
                    acceptBorrow(product);
                    break;
                default:
                    acceptBorrowSpread(product);
                    break;
            }
        }

        private void acceptCarry(Parts product) {
            made.copy(word);
            made.keep(2);
            made.xor(product);
            made.raiseHalves(1);
            passed.copy(word);
            passed.xor(made);
            stage = MEET;
        }

        private void acceptMade(Parts product) {
            made.xor(product);
            if (reach < LONGEST_REACH) {
                stage = SPREAD_PASSED;
                return;
            }
            made.raiseHalves(1);
            word.xor(made);
            stage = BORROW;
        }

        /** From here on the low half is where a borrow is made, the high half where it is passed on. */
        private void acceptBorrow(Parts product) {
            passed.copy(word);
            passed.and(LOW_HALF);
            made.copy(word);
            made.shiftDown(32);
            passed.xor(made);
            passed.flip(LOW_HALF);
            word.set(halves(product.own, passed.own), halves(product.next, passed.next));
            reach = 1;
            stage = SPREAD_BORROW;
        }

        private void acceptBorrowSpread(Parts product) {
            word.and(LOW_HALF);
            word.xor(product);
            if (reach < LONGEST_REACH) {
                reach *= 2;
            } else {
                stage = DONE;
            }
        }
    }

    /** Where a clerk's messages lie until it wants them. */
    private static final class Box {
        /** A clerk is never more than two messages before another one. */
        private static final int PLACES = 8;

        private final int[] numbers = new int[PLACES];
        private final long[] words = new long[PLACES];

        void clear() {
            Arrays.fill(numbers, 0);
        }

        void lay(int number, long word) {
            numbers[number & (PLACES - 1)] = number;
            words[number & (PLACES - 1)] = word;
        }

        boolean has(int number) {
            return numbers[number & (PLACES - 1)] == number;
        }

        long at(int number) {
            return words[number & (PLACES - 1)];
        }
    }

    /** The messages that are under way, in no order. */
    private static final class Post {
        private static final int MOST_UNDER_WAY = 16;

        private final int[] receivers = new int[MOST_UNDER_WAY];
        private final int[] numbers = new int[MOST_UNDER_WAY];
        private final long[] words = new long[MOST_UNDER_WAY];
        private int count;

        void clear() {
            count = 0;
        }

        int size() {
            return count;
        }

        void send(int receiver, int number, long word) {
            if (count >= MOST_UNDER_WAY) {
                return;
            }
            receivers[count] = receiver;
            numbers[count] = number;
            words[count] = word;
            count++;
        }

        void deliver(int pick, Clerk[] clerks) {
            if (pick < 0 || pick >= count) {
                return;
            }
            clerks[receivers[pick]].receive(numbers[pick], words[pick]);
            count--;
            receivers[pick] = receivers[count];
            numbers[pick] = numbers[count];
            words[pick] = words[count];
        }
    }

    /** One of the three: it knows the script, two parts of each number, and two of the three keys. */
    private static final class Clerk {
        private static final int COMPARING = 0;
        private static final int JOINING_TWO = 1;
        private static final int JOINING_ALL = 2;
        private static final int LAST_PRODUCT = 3;
        private static final int OPENING = 4;
        private static final int TASK_DONE = 5;

        private final int who;
        private final Script script = new Script();
        private final Box box = new Box();
        private final Pads pads = new Pads();
        private final int[] own = new int[FIRST_NUMBER];
        private final int[] next = new int[FIRST_NUMBER];
        private final Comparison comparison;
        private final Parts left;
        private final Parts right;
        private final Parts product;
        private final Parts bit;
        private int task;
        private int stage;
        private int sent;
        private boolean waiting;
        private final int[] opened = new int[MOST_OPENED];
        private int openedCount;

        Clerk(int who) {
            this.who = who;
            comparison = new Comparison(who);
            left = new Parts(who);
            right = new Parts(who);
            product = new Parts(who);
            bit = new Parts(who);
        }

        void prepare(Script asked, long ownKey, long nextKey, int runs) {
            script.copy(asked);
            pads.set(ownKey, nextKey, runs);
            box.clear();
            Arrays.fill(own, 0);
            Arrays.fill(next, 0);
            task = 0;
            stage = TASK_DONE;
            sent = 0;
            waiting = false;
            openedCount = 0;
        }

        void hold(int slot, int ownPart, int nextPart) {
            own[slot] = ownPart;
            next[slot] = nextPart;
        }

        void receive(int number, long word) {
            box.lay(number, word);
        }

        int copyOpened(int[] into) {
            System.arraycopy(opened, 0, into, 0, Math.min(openedCount, into.length));
            return Math.min(openedCount, into.length);
        }

        boolean canStep() {
            return task < script.count && (!waiting || box.has(sent));
        }

        /** Goes on up to the next message that it must wait for, or to the end of the task. */
        void step(Post post) {
            if (waiting) {
                product.next = box.at(sent);
                takeAnswer();
            } else {
                beginTask();
            }
            waiting = stage != TASK_DONE;
            if (waiting) {
                sendPiece(post);
            } else {
                task++;
            }
        }

        private void beginTask() {
            int first = script.firsts[task];
            int second = script.seconds[task];
            switch (script.kinds[task]) {
                case Script.MULTIPLY:
                    load(left, first);
                    load(right, second);
                    stage = LAST_PRODUCT;
                    break;
                case Script.LESS:
                    beginComparison(first, second);
                    break;
                case Script.SWAP:
                    beginComparison(second, first);
                    break;
                case Script.CHOOSE:
                    // The lowest bit of a sum is the exclusive or of the parts' lowest bits.
                    load(bit, first);
                    bit.and(1);
                    joinTwo();
                    break;
                case Script.OPEN:
                    load(left, first);
                    stage = OPENING;
                    break;
                default:
                    reckonAlone(first, second);
                    break;
            }
        }

        private void takeAnswer() {
            switch (stage) {
                case COMPARING:
                    comparison.accept(product);
                    if (comparison.isDone()) {
                        comparison.giveResult(bit);
                        joinTwo();
                    }
                    break;
                case JOINING_TWO:
                    joinAll();
                    break;
                case JOINING_ALL:
                    takeBit();
                    break;
                case LAST_PRODUCT:
                    takeLastProduct();
                    break;
                default:
                    takeOpened();
                    break;
            }
        }

        /** All clerks send at the same points, so the answer has the number of what was sent. */
        private void sendPiece(Post post) {
            sent++;
            if (stage == COMPARING) {
                comparison.ask(left, right);
                product.own = (left.own & (right.own ^ right.next)) ^ (left.next & right.own) ^ pads.xor(sent);
            } else if (stage == OPENING) {
                product.own = left.next;
            } else {
                product.own = left.own * (right.own + right.next) + left.next * right.own + pads.difference(sent);
            }
            post.send((who + CLERKS - 1) % CLERKS, sent, product.own);
        }

        private void reckonAlone(int first, int second) {
            load(left, first);
            if (script.kinds[task] != Script.COPY) {
                load(right, second);
                left.add(right, script.kinds[task] == Script.ADD ? 1 : -1);
            }
            store(script.targets[task], left);
            stage = TASK_DONE;
        }

        private void beginComparison(int first, int second) {
            load(left, first);
            load(right, second);
            comparison.begin(left, right);
            stage = COMPARING;
        }

        /** Makes numbers of the bit's three parts, whose exclusive or is then reckoned: first of two. */
        private void joinTwo() {
            left.copy(bit);
            left.keep(0);
            right.copy(bit);
            right.keep(1);
            stage = JOINING_TWO;
        }

        private void joinAll() {
            // The exclusive or of two bits a, b is the number a + b - 2ab.
            left.add(right, 1);
            left.add(product, -2);
            right.copy(bit);
            right.keep(2);
            stage = JOINING_ALL;
        }

        private void takeBit() {
            bit.copy(left);
            bit.add(right, 1);
            bit.add(product, -2);
            int kind = script.kinds[task];
            if (kind == Script.LESS) {
                store(script.targets[task], bit);
                stage = TASK_DONE;
                return;
            }
            load(right, script.seconds[task]);
            load(left, kind == Script.SWAP ? script.firsts[task] : script.thirds[task]);
            right.add(left, -1);
            left.copy(bit);
            stage = LAST_PRODUCT;
        }

        private void takeLastProduct() {
            int kind = script.kinds[task];
            if (kind == Script.CHOOSE) {
                load(left, script.thirds[task]);
                product.add(left, 1);
            } else if (kind == Script.SWAP) {
                load(right, script.seconds[task]);
                right.add(product, -1);
                store(script.seconds[task], right);
                load(left, script.firsts[task]);
                product.add(left, 1);
            }
            store(script.targets[task], product);
            stage = TASK_DONE;
        }

        private void takeOpened() {
            if (openedCount < opened.length) {
                opened[openedCount] = (int) (left.own + left.next + product.next);
                openedCount++;
            }
            stage = TASK_DONE;
        }

        private void load(Parts into, int operand) {
            if (operand >= FIRST_NUMBER) {
                into.setKnown(operand - FIRST_NUMBER);
            } else {
                into.set(own[operand], next[operand]);
            }
        }

        private void store(int register, Parts from) {
            own[register] = (int) from.own;
            next[register] = (int) from.next;
        }
    }

    /** The three clerks and the post between them; who is next is drawn from the turns. */
    private static final class Office {
        /** Twelve comparisons and all else that fits in a text need fewer than two thousand. */
        private static final int MOST_MOVES = 1000000;

        private final Post post = new Post();
        private final Clerk[] clerks = new Clerk[CLERKS];
        private long chance;

        Office() {
            for (int i = 0; i < CLERKS; i++) {
                clerks[i] = new Clerk(i);
            }
        }

        void prepare(Script script, long[] keys, int runs) {
            post.clear();
            for (int i = 0; i < CLERKS; i++) {
                clerks[i].prepare(script, keys[i], keys[(i + 1) % CLERKS], runs);
            }
        }

        void deal(int slot, int part0, int part1, int part2) {
            clerks[0].hold(slot, part0, part1);
            clerks[1].hold(slot, part1, part2);
            clerks[2].hold(slot, part2, part0);
        }

        /** Every move is a step or a message that comes, so there is an end. */
        void carryOut(int turns) {
            chance = turns;
            for (int moves = 0; moves < MOST_MOVES; moves++) {
                int choices = post.size() + countReady();
                if (choices <= 0) {
                    return;
                }
                makeMove(draw(choices));
            }
        }

        private int countReady() {
            int ready = 0;
            for (int i = 0; i < CLERKS; i++) {
                if (clerks[i].canStep()) {
                    ready++;
                }
            }
            return ready;
        }

        private void makeMove(int pick) {
            if (pick < post.size()) {
                post.deliver(pick, clerks);
                return;
            }
            int passedOver = post.size();
            for (int i = 0; i < CLERKS; i++) {
                if (clerks[i].canStep()) {
                    if (passedOver == pick) {
                        clerks[i].step(post);
                        return;
                    }
                    passedOver++;
                }
            }
        }

        private int draw(int choices) {
            chance = chance * 6364136223846793005L + 1442695040888963407L;
            return Math.floorMod((int) (chance >>> 32), choices);
        }

        /** All clerks know what was opened; any one of them can tell it. */
        int copyOpened(int[] into) {
            return clerks[0].copyOpened(into);
        }
    }
}
