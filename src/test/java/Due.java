/** What a call answers: of several things that are wrong with it the first, in the order told. */
final class Due {
    private long answer;
    private boolean isWrong;

    Due wrong(boolean is, long answered) {
        if (is && !isWrong) {
            isWrong = true;
            answer = answered;
        }
        return this;
    }

    boolean isWrong() {
        return isWrong;
    }

    long or(long right) {
        return isWrong ? answer : right;
    }

    /** The fault that fault() tells behind a call that names faults. */
    int fault() {
        return isWrong && answer <= -11 && answer >= -14 ? (int) (-10 - answer) : 0;
    }

    /** The same where a long is answered. */
    long lostOr(long right) {
        return isWrong ? PoleBehind.LOST : right;
    }
}
