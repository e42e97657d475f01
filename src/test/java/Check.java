/** What all tests share: writing texts, comparing answers, and the exit code. */
final class Check {
    private static int wrong;
    private static int looked;
    private static int sentences;
    private static String sentence = "";

    private Check() {
    }

    /** A call of the face that may throw. */
    interface Call {
        void make();
    }

    /** What is looked at from here on is said by these words of the document, which a wrong answer tells. */
    static void sentence(String words) {
        sentence = words;
        sentences++;
    }

    private static void tell(String line) {
        wrong++;
        System.out.println((sentence.isEmpty() ? "" : "\"" + sentence + "\": ") + line);
    }

    static void same(String what, long due, long got) {
        looked++;
        if (due != got) {
            tell(what + ": " + got + ", due is " + due);
        }
    }

    static void holds(String what, boolean got) {
        same(what, 1, got ? 1 : 0);
    }

    static void fails(String what, Class<? extends RuntimeException> due, Call call) {
        looked++;
        String got = "nothing";
        try {
            call.make();
        } catch (RuntimeException e) {
            if (e.getClass() == due) {
                return;
            }
            got = e.toString();
        }
        tell(what + ": throws " + got + ", due is " + due.getName());
    }

    static void noState(String what, Call call) {
        fails(what, IllegalStateException.class, call);
    }

    static void badArgument(String what, Call call) {
        fails(what, IllegalArgumentException.class, call);
    }

    static void noIndex(String what, Call call) {
        fails(what, IndexOutOfBoundsException.class, call);
    }

    /** The characters of the text as a long, the first one lowest. */
    static long pack(String text) {
        long characters = 0;
        for (int i = 0; i < text.length(); i++) {
            characters |= (long) text.charAt(i) << (8 * i);
        }
        return characters;
    }

    static void write(ThreeClerks x, String text) {
        for (int i = 0; i < text.length(); i += 8) {
            String piece = text.substring(i, Math.min(i + 8, text.length()));
            holds("write of <" + piece + ">", x.write(pack(piece)));
        }
    }

    /** Blanks, one a call, so that they count in the text and say nothing in it. */
    static void writeBlanks(ThreeClerks x, int count) {
        for (int i = 0; i < count; i++) {
            holds("write of a blank", x.write(' '));
        }
    }

    static void compiles(ThreeClerks x, String text, int comparisons) {
        write(x, text);
        try {
            same("compile of <" + text + ">", comparisons, x.compile());
        } catch (IllegalArgumentException e) {
            same("compile of <" + text + "> throws", 0, 1);
        }
        same("place after <" + text + ">", -1, x.place());
        same("text left of <" + text + ">", 0, x.wipe());
    }

    static void refuses(ThreeClerks x, String text, int place) {
        write(x, text);
        badArgument("compile of <" + text + ">", x::compile);
        same("place after <" + text + ">", place, x.place());
        same("text kept of <" + text + ">", text.length(), x.wipe());
    }

    static void setSeeds(ThreeClerks x) {
        x.seed(0, 17, -4);
        x.seed(1, 0, 99);
        x.seed(2, Integer.MIN_VALUE, 123456789);
    }

    static ThreeClerks seeded() {
        ThreeClerks x = new ThreeClerks();
        setSeeds(x);
        return x;
    }

    static void opens(ThreeClerks x, int turns, int... due) {
        try {
            same("run(" + turns + ")", due.length, x.run(turns));
        } catch (IllegalStateException e) {
            same("run(" + turns + ") throws", 0, 1);
        }
        has(x, due);
    }

    static void has(ThreeClerks x, int... due) {
        for (int i = 0; i < due.length; i++) {
            try {
                same("output(" + i + ")", due[i], x.output(i));
            } catch (IndexOutOfBoundsException e) {
                same("output(" + i + ") throws", 0, 1);
            }
        }
        noIndex("output(" + due.length + ")", () -> x.output(due.length));
    }

    /** Compiles the script on a new object with these inputs and looks at what is opened. */
    static void reckons(String script, int[] inputs, int... due) {
        ThreeClerks x = seeded();
        for (int i = 0; i < inputs.length; i++) {
            x.input(i, inputs[i]);
        }
        write(x, script);
        try {
            x.compile();
        } catch (IllegalArgumentException e) {
            same("compile of <" + script + "> throws", 0, 1);
            return;
        }
        int before = wrong;
        opens(x, 7, due);
        opens(x, -1, due);
        if (wrong != before) {
            System.out.println("    (script <" + script + ">)");
        }
    }

    static void end() {
        System.out.println(looked + " answers looked at for " + sentences + " sentences, " + wrong + " wrong");
        if (wrong != 0 || looked == 0) {
            System.exit(1);
        }
    }
}
