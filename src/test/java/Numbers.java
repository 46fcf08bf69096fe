/** Calls with the numbers of echoes and valleys that there are, and with others. */
final class Numbers {
    interface Call {
        void with(EchoFair fair, int number);
    }

    interface PairCall {
        void with(EchoFair fair, int valley, int echo);
    }

    private final Check check;

    Numbers(Check check) {
        this.check = check;
    }

    /** A new object, the most and the least of a load, and a saved state of four echoes. */
    static EchoFair[] fairs() {
        EchoFair least = Check.loaded(crowd(12, 8));
        Check.type(least, crowd(1, 1));
        least.load();
        EchoFair restored = new EchoFair();
        restored.passDays(1);
        restored.save();
        Check.type(restored, crowd(12, 8));
        restored.load();
        restored.restore();
        return new EchoFair[] {new EchoFair(), Check.loaded(crowd(12, 8)), least, restored};
    }

    /** So many echoes and valleys; each name is a letter. */
    static String crowd(int echoes, int valleys) {
        StringBuilder text = new StringBuilder("fair 30;fog 0;");
        for (int i = 0; i < echoes; i++) {
            text.append("echo ").append((char) ('a' + i)).append(" 1 1 1 0;");
        }
        for (int i = 0; i < valleys; i++) {
            text.append("valley ").append((char) ('z' - i)).append(" 1 1 1 0;");
        }
        return text.toString();
    }

    /** Each echo that there is can be asked for, and no other number. */
    void ofEchoes(Call call) {
        for (EchoFair fair : fairs()) {
            for (int echo = 0; echo < fair.echoCount(); echo++) {
                call.with(fair, echo);
            }
        }
        ofNoEcho(call);
    }

    void ofNoEcho(Call call) {
        for (EchoFair fair : fairs()) {
            refused(fair, fair.echoCount(), "echo", call);
        }
    }

    /** Each valley that there is can be asked for, and no other number. */
    void ofValleys(Call call) {
        for (EchoFair fair : fairs()) {
            for (int valley = 0; valley < fair.valleyCount(); valley++) {
                call.with(fair, valley);
            }
        }
        ofNoValley(call);
    }

    void ofNoValley(Call call) {
        for (EchoFair fair : fairs()) {
            refused(fair, fair.valleyCount(), "valley", call);
        }
    }

    /** Each pair that there is can be asked for, and no pair with another number. */
    void ofPairs(PairCall call) {
        for (EchoFair fair : fairs()) {
            for (int valley = 0; valley < fair.valleyCount(); valley++) {
                for (int echo = 0; echo < fair.echoCount(); echo++) {
                    call.with(fair, valley, echo);
                }
            }
        }
        ofNoPair(call);
    }

    void ofNoPair(PairCall call) {
        for (EchoFair fair : fairs()) {
            int echoes = fair.echoCount();
            int valleys = fair.valleyCount();
            refused(fair, echoes, "valley 0, echo",
                (some, echo) -> call.with(some, 0, echo));
            refused(fair, echoes, "last valley, echo",
                (some, echo) -> call.with(some, valleys - 1, echo));
            refused(fair, valleys, "echo 0, valley",
                (some, valley) -> call.with(some, valley, 0));
            refused(fair, valleys, "last echo, valley",
                (some, valley) -> call.with(some, valley, echoes - 1));
            check.index("neither", () -> call.with(fair, valleys, echoes));
            check.index("neither, below", () -> call.with(fair, -1, -1));
        }
    }

    private void refused(EchoFair fair, int count, String what, Call call) {
        int[] outside = {-1, -count, count, count + 1, 12, 31, 32, 33, 256, 65536,
            Integer.MIN_VALUE, Integer.MIN_VALUE + count, Integer.MAX_VALUE};
        for (int number : outside) {
            check.index(what + " " + number + " of " + count, () -> call.with(fair, number));
        }
    }
}
