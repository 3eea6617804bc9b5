/**
 * The ways in which an end can stand, with one circuit and the delay 1. Exchange e has the end that is looked at,
 * exchange o the other one.
 */
enum Stages {
    IDLE(0, false, 0, ""),
    OUTGOING(1, true, 1, "call(e, false); tick(1);"),
    BEFORE_CHECK(1, true, 1, "call(e, true); tick(1);"),
    INCOMING(2, false, 1, "call(o, false); tick(1);"),
    WAITING(2, false, 1, "call(o, true); tick(1);"),
    RINGING_ORIGIN(3, true, 2, "call(e, false); tick(1); accept(o, 0); tick(1);"),
    RINGING(3, false, 2, "call(o, false); tick(1); accept(e, 0); tick(1);"),
    TALKING_ORIGIN(4, true, 3, "call(e, false); tick(1); accept(o, 0); tick(1); answer(o, 0); tick(1);"),
    TALKING(4, false, 3, "call(o, false); tick(1); accept(e, 0); tick(1); answer(e, 0); tick(1);"),
    SUSPENDED_ORIGIN(5, true, 4, "call(e, false); tick(1); accept(o, 0); tick(1); answer(o, 0); tick(1); suspend(o, 0); tick(1);"),
    SUSPENDED(5, false, 4, "call(o, false); tick(1); accept(e, 0); tick(1); answer(e, 0); tick(1); suspend(e, 0); tick(1);"),
    RELEASING(6, false, 0, "loseNext(e, 2); call(e, false); release(e, 0);"),
    RESETTING(7, false, 0, "loseNext(e, 1); reset(e, 0, 0);");

    static final String ONE_CIRCUIT = "setCircuits(1); setDelay(1);";

    final int state;
    /** Whether the end is the origin of its call. */
    final boolean origin;
    final int ticks;
    private final String calls;

    Stages(int state, boolean origin, int ticks, String calls) {
        this.state = state;
        this.origin = origin;
        this.ticks = ticks;
        this.calls = calls;
    }

    /** The calls that lead there, if the circuit is idle and one is to look at the end of this exchange. */
    String at(int exchange) {
        return of(calls, exchange);
    }

    static String of(String calls, int exchange) {
        return calls.replaceAll("\\be\\b", Integer.toString(exchange)).replaceAll("\\bo\\b", Integer.toString(1 - exchange));
    }

    boolean hasCall() {
        return state != 0 && state < 6;
    }
}
