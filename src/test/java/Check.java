/** What the tests share: counting wrong answers, and writing a text into an input buffer. */
final class Check {
    private final String name;
    private int checks;
    private int wrong;

    Check(String name) {
        this.name = name;
    }

    void same(String what, long got, long want) {
        checks++;
        if (got != want) {
            report(what + " answered " + got + ", due is " + want);
        }
    }

    void same(String what, String got, String want) {
        checks++;
        if (!got.equals(want)) {
            report(what + " answered '" + got + "', due is '" + want + "'");
        }
    }

    void yes(String what, boolean got) {
        same(what, got ? 1 : 0, 1);
    }

    void no(String what, boolean got) {
        same(what, got ? 1 : 0, 0);
    }

    void index(String what, Runnable call) {
        refuses(what, IndexOutOfBoundsException.class, call);
    }

    void argument(String what, Runnable call) {
        refuses(what, IllegalArgumentException.class, call);
    }

    void state(String what, Runnable call) {
        refuses(what, IllegalStateException.class, call);
    }

    /** The very class is asked for: the machine throws subclasses of IndexOutOfBoundsException. */
    private void refuses(String what, Class<?> kind, Runnable call) {
        String got = "nothing";
        try {
            call.run();
        } catch (RuntimeException e) {
            got = e.getClass().getName();
        }
        same(what + " throws", got, kind.getName());
    }

    /** Runs the test of a sentence of the document, and names the sentence if it does not hold. */
    void sentence(String sentence, Runnable test) {
        int before = wrong;
        try {
            test.run();
        } catch (RuntimeException e) {
            report("a call threw " + e);
        }
        if (wrong > before) {
            System.out.println(name + ": THIS DOES NOT HOLD: " + sentence);
        }
    }

    void report(String text) {
        wrong++;
        if (wrong <= 40) {
            System.out.println(name + ": " + text);
        }
    }

    void finish() {
        System.out.println(name + ": " + checks + " checks, " + wrong + " wrong");
        if (wrong != 0) {
            System.exit(1);
        }
    }

    /** Appends the text to the input buffer; the buffer must have room for whole blocks. */
    static void type(EchoFair fair, String text) {
        int end = 0;
        for (int i = 0; i < text.length(); i += 20) {
            int length = fair.append(four(text, i), four(text, i + 4), four(text, i + 8),
                four(text, i + 12), four(text, i + 16));
            end = length - 20 + Math.min(20, text.length() - i);
        }
        if (!text.isEmpty()) {
            fair.truncate(end);
        }
    }

    private static int four(String text, int start) {
        int bytes = 0;
        for (int i = start; i < start + 4; i++) {
            bytes = bytes << 8 | (i < text.length() ? text.charAt(i) & 255 : ' ');
        }
        return bytes;
    }

    static EchoFair loaded(String text) {
        EchoFair fair = new EchoFair();
        type(fair, text);
        fair.load();
        return fair;
    }

    static int run(EchoFair fair, String commands) {
        type(fair, commands);
        return fair.executeCommands();
    }

    static String contracts(EchoFair fair) {
        int length = fair.formatContracts();
        StringBuilder text = new StringBuilder();
        for (int i = 0; i < length; i++) {
            text.append((char) fair.outputByte(i));
        }
        return text.toString();
    }

    /** Loads a text that is wrong and checks the error. */
    void badLoad(String text, int code, int position) {
        EchoFair fair = new EchoFair();
        type(fair, text);
        argument("load of '" + text + "'", fair::load);
        same("error code of '" + text + "'", fair.errorCode(), code);
        same("error position of '" + text + "'", fair.errorPosition(), position);
        same("buffer after '" + text + "'", fair.append(0, 0, 0, 0, 0), 20);
        same("echoes after '" + text + "'", fair.echoCount(), 4);
    }

    /** Executes a text that is wrong on a new object and checks the error. */
    void badCommands(String text, int code, int position) {
        EchoFair fair = new EchoFair();
        type(fair, text);
        argument("commands '" + text + "'", fair::executeCommands);
        same("error code of '" + text + "'", fair.errorCode(), code);
        same("error position of '" + text + "'", fair.errorPosition(), position);
        same("buffer after '" + text + "'", fair.append(0, 0, 0, 0, 0), 20);
        same("day after '" + text + "'", fair.day(), 0);
        state("undo after '" + text + "'", fair::undo);
    }
}
