/** All that an object tells, in one text, to see whether a call has changed anything. */
final class State {
    private State() {
    }

    /** Some 150 calls of a new object's four echoes and three valleys. */
    static String of(EchoFair fair) {
        StringBuilder text = new StringBuilder();
        say(text, fair.errorCode(), fair.errorPosition(), fair.echoCount(), fair.valleyCount(),
            fair.day(), fair.seasonLength(), fair.fogOf(0), fair.fogOf(1), fair.fogOf(2),
            fair.contractsMade(), fair.contractsEnded(), fair.moneyImbalance(),
            fair.contractImbalance(), fair.doubleServants());
        for (int echo = 0; echo < fair.echoCount(); echo++) {
            say(text, fair.delayOf(echo), fair.repeatsOf(echo), fair.reserveWage(echo),
                fair.resistanceOf(echo), fair.savingsOf(echo), fair.unpaidDays(echo),
                fair.employerOf(echo), fair.desertions(echo));
        }
        for (int valley = 0; valley < fair.valleyCount(); valley++) {
            say(text, fair.widthOf(valley), fair.postsOf(valley), fair.wageOf(valley),
                fair.purseOf(valley), fair.staffMember(valley, 0), fair.staffMember(valley, 1),
                fair.staffMember(valley, 2), fair.repliesHeard(valley), fair.wagesPaid(valley));
            for (int echo = 0; echo < fair.echoCount(); echo++) {
                say(text, fair.isTested(valley, echo) ? 1 : 0, fair.pairReason(valley, echo),
                    fair.daysServed(valley, echo));
            }
        }
        int sign = fair.outputByte(0);
        for (int index = 1; sign >= 0; index++) {
            text.append((char) sign);
            sign = fair.outputByte(index);
        }
        return text.toString();
    }

    private static void say(StringBuilder text, int... numbers) {
        for (int number : numbers) {
            text.append(number).append(' ');
        }
        text.append('/');
    }
}
