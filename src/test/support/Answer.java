/** What one call answered, with the call's own words for the report. */
final class Answer {
    final String call;
    final long value;
    private final boolean isTruth;

    Answer(String call, long value) {
        this.call = call;
        this.value = value;
        this.isTruth = false;
    }

    Answer(String call, boolean truth) {
        this.call = call;
        this.value = truth ? 1 : 0;
        this.isTruth = true;
    }

    void is(long due) {
        if (isTruth || value != due) {
            Edges.failed(call + " answered " + value + ", due is " + due);
        }
    }

    void is(boolean due) {
        if (!isTruth || value != (due ? 1 : 0)) {
            Edges.failed(call + " answered " + value + ", due is " + due);
        }
    }

    /** A refused call answers false, or NONE where the answer is a number. */
    void isRefused() {
        if (isTruth) {
            is(false);
        } else {
            is(FingerOverlay.NONE);
        }
    }

    @Override
    public String toString() {
        return call + " = " + value;
    }
}
