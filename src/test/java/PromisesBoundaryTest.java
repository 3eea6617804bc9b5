import java.math.BigInteger;
import java.util.Arrays;

/** The sentences of promises 1 to 26 that name a boundary (a range, "Throws", "NONE"), each with a test of its own. */
public final class PromisesBoundaryTest {
    private static final String BOUNDS = Boundary.BOUNDS;
    private static final String ARGUMENT = Boundary.ARGUMENT;
    private static final String STATE = Boundary.STATE;

    /** Call 0 of exchange 0 talks on circuit 0, and call 1 of exchange 1 rings on circuit 1; call 2 comes in on circuit 2. */
    private static final String BUSY = "setDelay(1); call(0, false); call(1, false); tick(1); accept(1, 0); accept(0, 1); answer(1, 0);"
        + "tick(1); setDelay(3); call(0, true); tick(1);";

    public static void main(String[] args) {
        promise1();
        promise2();
        promise3();
        promise4();
        promise5();
        promise6();
        promises7To11();
        promises12And13();
        promise14();
        promise15();
        promise16();
        promise17();
        promise18();
        promise19();
        promise20();
        promise21();
        promise22();
        promise23();
        promise24();
        promise25();
        promise26();
        Boundary.finish();
    }

    private static void sentence(int promise, String words) {
        Boundary.sentence("Promise " + promise + ": " + words);
    }

    // ---- set-up

    private static void promise1() {
        sentence(1, "with the time 0, without calls and messages, with an empty undo stack");
        Boundary.run("time() = 0; calls() = 0; messages() = 0; undo()" + STATE);
        Boundary.run("callValue(0, 0)" + BOUNDS, "message(0, 0)" + BOUNDS, "tick(20) = 0; total(0) = 0");
        Boundary.same("", "setDelay(9); undo()");
    }

    private static void promise2() {
        sentence(2, "circuits: 1 to 12; throws IllegalArgumentException if circuits is out of range");
        Boundary.range("", "setCircuits(?) = 4", 1, 12, ARGUMENT);
        Boundary.outside(BUSY, "setCircuits(?)", 1, 12, ARGUMENT);
        sentence(2, "Returns the previous number of circuits");
        Boundary.run("setCircuits(12) = 4; setCircuits(1) = 12; setCircuits(1) = 1; setCircuits(13)" + ARGUMENT, "setCircuits(7) = 1",
            "undo(); setCircuits(4) = 1");
        sentence(2, "Begins anew with a number of circuits, with the time 0 and without calls and messages");
        String busy = "setCircuits(12); loseNext(1, 1); block(1, 0); setFaulty(2, true); setFaulty(11, true); call(0, true); call(1, true);"
            + "call(0, false); reset(1, 5, 8); block(0, 11); tick(7); call(0, false); release(0, 4);";
        Boundary.run(busy, "setCircuits(12) = 12; time() = 0; calls() = 0; messages() = 0; count(0) = 12; count(4) = 0; tick(100) = 0",
            "total(0) = 0; total(1) = 0; total(2) = 0; total(3) = 0; total(4) = 0; setFaulty(2, false) = false; setFaulty(11, false) = false");
        // The three ticks fill the undo stack, so that nothing from before is left in either run.
        Boundary.same(busy + "setCircuits(12); tick(1); tick(1); tick(1)", "setCircuits(12); tick(1); tick(1); tick(1)");
        Boundary.same(busy + "setCircuits(3); setCircuits(12); tick(1); tick(1); tick(1)", "setCircuits(12); tick(1); tick(1); tick(1)");
        Boundary.same(busy + "setCircuits(12); call(0, true); call(1, false); tick(1); reset(0, 0, 11)",
            "setCircuits(12); call(0, true); call(1, false); tick(1); reset(0, 0, 11)");
        Boundary.run("setFaulty(0, true); setFaulty(1, true); setFaulty(2, true); setFaulty(3, true); call(0, true); tick(3); callValue(0, 2) = 2",
            "setCircuits(4); setFaulty(0, false) = false; setFaulty(1, false) = false; setFaulty(2, false) = false; setFaulty(3, false) = false",
            "call(0, true) = 0; callValue(0, 2) = 1; callValue(0, 3) = SETTING_UP; callValue(0, 4) = NONE");
        sentence(2, "the delay stays, and nothing is going to be lost");
        Boundary.run("setDelay(20); loseNext(0, 100); loseNext(1, 1); setCircuits(4); setDelay(20) = 20; call(0, false); message(0, 0) = 20",
            "total(1) = 0; reset(1, 0, 0); messages() = 2; loseNext(0, 0) = 0; loseNext(1, 0) = 0");
    }

    private static void promise3() {
        sentence(3, "ticks: 1 to 20; throws IllegalArgumentException if ticks is out of range");
        Boundary.range("", "setDelay(?) = 2", 1, 20, ARGUMENT);
        Boundary.outside(BUSY, "setDelay(?)", 1, 20, ARGUMENT);
        sentence(3, "Returns the previous delay");
        Boundary.run("setDelay(1) = 2; setDelay(20) = 1; setDelay(20) = 20; setDelay(21)" + ARGUMENT, "setDelay(0)" + ARGUMENT,
            "setDelay(2) = 20; undo(); setDelay(5) = 20");
    }

    private static void promise4() {
        sentence(4, "circuit: 0 to N - 1; throws IndexOutOfBoundsException if there is no such circuit");
        for (int n = 1; n <= 12; n++) {
            Boundary.range("setCircuits(" + n + ")", "setFaulty(?, true) = false", 0, n - 1, BOUNDS);
            Boundary.outside("setCircuits(12); setFaulty(11, true); setCircuits(" + n + ")", "setFaulty(?, false)", 0, n - 1, BOUNDS);
        }
        sentence(4, "Returns true if it was faulty before");
        Boundary.run("setFaulty(0, true) = false; setFaulty(1, false) = false; setFaulty(0, true) = true; setFaulty(0, false) = true",
            "setFaulty(0, false) = false; setFaulty(3, true) = false; undo(); setFaulty(3, false) = false");
    }

    private static void promise5() {
        sentence(5, "exchange: 0 or 1; throws IndexOutOfBoundsException if there is no such exchange");
        Boundary.range("", "loseNext(?, 5) = 0", 0, 1, BOUNDS);
        sentence(5, "count: number of messages, 0 to 100; throws IllegalArgumentException if count is out of range");
        Boundary.range("", "loseNext(0, ?) = 0", 0, 100, ARGUMENT);
        Boundary.range("", "loseNext(1, ?) = 0", 0, 100, ARGUMENT);
        Boundary.outside(BUSY + "loseNext(1, 7)", "loseNext(1, ?)", 0, 100, ARGUMENT);
        sentence(5, "instead of what was told before for this exchange");
        Boundary.run("loseNext(0, 100) = 0; loseNext(0, 100) = 100; loseNext(0, 1) = 100; reset(0, 0, 0); reset(0, 0, 0); messages() = 1");
        Boundary.run("loseNext(0, 1); loseNext(1, 2); loseNext(0, 0) = 1; reset(0, 0, 0); messages() = 1; loseNext(1, 0) = 2");
        sentence(5, "Returns how many messages of this exchange were still going to be lost before");
        Boundary.run("loseNext(0, 3); reset(0, 0, 1); loseNext(0, 9) = 1; loseNext(1, 9) = 0; reset(0, 0, 3); loseNext(0, 1) = 5",
            "reset(0, 0, 3); loseNext(0, 0) = 0; loseNext(1, 0) = 9; messages() = 3");
    }

    // ---- calls

    private static void promise6() {
        sentence(6, "exchange: the origin, 0 or 1; throws IndexOutOfBoundsException if there is no such exchange");
        Boundary.range("", "call(?, false) = 0", 0, 1, BOUNDS);
        Boundary.range(BUSY, "call(?, true) = 3", 0, 1, BOUNDS);
        sentence(6, "throws IllegalStateException if 40 calls were begun");
        StringBuilder forty = new StringBuilder(Stages.ONE_CIRCUIT);
        for (int number = 0; number < 39; number++) {
            forty.append("call(0, false) = ").append(number).append("; release(0, 0); tick(2);");
        }
        Boundary.run(forty.toString(), "call(1, true) = 39; calls() = 40");
        forty.append("call(0, false) = 39; release(0, 0); tick(2); choice(0) = 0; choice(1) = 0;");
        Boundary.refused(forty.toString(), "call(0, false)", STATE);
        Boundary.refused(forty.toString(), "call(1, true)", STATE);
        sentence(6, "or there is no circuit for the attempt");
        Boundary.refused("setCircuits(1); call(0, false)", "call(0, false)", STATE);
        Boundary.refused("setCircuits(2); call(1, false); call(1, true)", "call(1, true)", STATE);
        Boundary.run("setCircuits(1); call(0, false) = 0; call(1, false) = 1; call(0, false)" + STATE, "call(1, false)" + STATE);
        StringBuilder full = new StringBuilder("setCircuits(12);");
        for (int number = 0; number < 12; number++) {
            full.append("call(1, false) = ").append(number).append(';');
        }
        Boundary.refused(full.toString(), "call(1, false)", STATE);
        Boundary.run(full.toString(), "call(0, false) = 12");
    }

    private static void promises7To11() {
        sentence(7, "Throws IllegalStateException if the end is not INCOMING, or waits for CHECKED");
        movesOnlyAt("accept", Stages.INCOMING);
        sentence(8, "Throws IllegalStateException if the end is not RINGING, or is the origin of its call");
        movesOnlyAt("answer", Stages.RINGING);
        sentence(9, "Throws IllegalStateException if the end is not TALKING, or is the origin of its call");
        movesOnlyAt("suspend", Stages.TALKING);
        sentence(10, "Throws IllegalStateException if the end is not SUSPENDED, or is the origin of its call");
        movesOnlyAt("resume", Stages.SUSPENDED);
        sentence(11, "Throws IllegalStateException if the end is IDLE, RELEASING or RESETTING");
        movesOnlyAt("release", Stages.OUTGOING, Stages.BEFORE_CHECK, Stages.INCOMING, Stages.WAITING, Stages.RINGING_ORIGIN,
            Stages.RINGING, Stages.TALKING_ORIGIN, Stages.TALKING, Stages.SUSPENDED_ORIGIN, Stages.SUSPENDED);
        String[] methods = {"accept", "answer", "suspend", "resume", "release", "block", "unblock"};
        for (int i = 0; i < methods.length; i++) {
            sentence(7 + i, "Throws IndexOutOfBoundsException if there is no such exchange or circuit (" + methods[i] + ")");
            noSuchEnd(methods[i]);
        }
    }

    /** At the stages told the call answers the number of the call; at all others it is refused. */
    private static void movesOnlyAt(String method, Stages... stages) {
        for (int exchange = 0; exchange < 2; exchange++) {
            for (Stages stage : Stages.values()) {
                String way = Stages.ONE_CIRCUIT + "call(0, false) = 0; release(0, 0); tick(2);" + stage.at(exchange);
                String call = method + "(" + exchange + ", 0)";
                if (Arrays.asList(stages).contains(stage)) {
                    Boundary.run(way, call + " = 1");
                    Boundary.undoable(way, call);
                } else {
                    Boundary.refused(way, call, STATE);
                }
            }
        }
    }

    private static void noSuchEnd(String method) {
        for (int n = 1; n <= 12; n += n == 1 ? 3 : 8) {
            String stage = "setCircuits(" + n + "); setDelay(1); call(0, false); tick(1);";
            Boundary.outside(stage, method + "(?, 0)", 0, 1, BOUNDS);
            Boundary.outside(stage, method + "(0, ?)", 0, n - 1, BOUNDS);
            Boundary.outside(stage, method + "(1, ?)", 0, n - 1, BOUNDS);
            Boundary.refused(stage, method + "(2, " + n + ")", BOUNDS);
        }
    }

    // ---- blocking and reset

    private static void promises12And13() {
        String[] blocks = {"", "loseNext(e, 1); block(e, 0);", "block(e, 0); tick(2);", "block(e, 0); tick(2); loseNext(e, 1); unblock(e, 0);"};
        for (int exchange = 0; exchange < 2; exchange++) {
            for (int block = 0; block < blocks.length; block++) {
                for (Stages stage : new Stages[] {Stages.IDLE, Stages.TALKING, Stages.TALKING_ORIGIN, Stages.RESETTING}) {
                    String way = Stages.ONE_CIRCUIT + stage.at(exchange) + Stages.of(blocks[block], exchange);
                    boolean blocked = block == 1 || block == 2;
                    sentence(12, "Throws IllegalStateException if the local block is BLOCKING or BLOCKED");
                    takesBlock(way, "block(" + exchange + ", 0)", block, !blocked);
                    sentence(13, "Throws IllegalStateException if the local block is NOT_BLOCKED or UNBLOCKING");
                    takesBlock(way, "unblock(" + exchange + ", 0)", block, blocked);
                }
            }
        }
        sentence(13, "Throws IllegalStateException if the local block is NOT_BLOCKED (the other end's block does not count)");
        Boundary.refused("block(0, 0); tick(4)", "unblock(1, 0)", STATE);
        sentence(12, "Returns the previous local block (the other end's block does not count)");
        Boundary.run("block(0, 0); tick(4); block(1, 0) = NOT_BLOCKED");
    }

    private static void takesBlock(String way, String call, int previous, boolean taken) {
        if (taken) {
            Boundary.run(way, call + " = " + previous);
            Boundary.undoable(way, call);
        } else {
            Boundary.refused(way, call, STATE);
        }
    }

    private static void promise14() {
        sentence(14, "exchange: 0 or 1; throws IndexOutOfBoundsException if there is no such exchange");
        Boundary.range("", "reset(?, 0, 3) = 4", 0, 1, BOUNDS);
        sentence(14, "first: first circuit, 0 to last; throws IndexOutOfBoundsException if there is no such circuit");
        for (int last = 0; last < 4; last++) {
            Boundary.range("", "reset(0, ?, " + last + ")", 0, last, BOUNDS);
        }
        Boundary.refused(BUSY, "reset(1, 3, 2)", BOUNDS);
        Boundary.refused(BUSY, "reset(1, 3, 0)", BOUNDS);
        Boundary.refused(BUSY, "reset(1, 1, 0)", BOUNDS);
        sentence(14, "last: last circuit, 0 to N - 1; throws IndexOutOfBoundsException if there is no such circuit");
        for (int n = 1; n <= 12; n++) {
            Boundary.range("setCircuits(" + n + ")", "reset(1, 0, ?)", 0, n - 1, BOUNDS);
            Boundary.refused("setCircuits(" + n + ")", "reset(1, " + n + ", " + n + ")", BOUNDS);
            Boundary.refused("setCircuits(" + n + ")", "reset(1, -1, " + (n - 1) + ")", BOUNDS);
        }
        Boundary.refused(BUSY, "reset(0, -2147483648, 2147483647)", BOUNDS);
        Boundary.refused(BUSY, "reset(0, 2147483647, -2147483648)", BOUNDS);
        sentence(14, "Resets the ends of an exchange of some circuits, in ascending order");
        for (int first = 0; first < 12; first++) {
            for (int last = first; last < 12; last++) {
                resetsFromTo(first, last);
            }
        }
        sentence(14, "Returns how many of these ends were IDLE");
        Boundary.run(BUSY, "reset(0, 0, 2) = 0; reset(0, 0, 3) = 1; reset(0, 0, 3) = 0; reset(1, 3, 3) = 1; reset(1, 2, 3) = 1; reset(1, 0, 3) = 0");
        Boundary.run("setCircuits(12); call(1, true); call(1, true); reset(1, 0, 11) = 10; reset(0, 0, 11) = 12");
    }

    private static void resetsFromTo(int first, int last) {
        TrunkGroup group = Boundary.run("setCircuits(12); reset(1, " + first + ", " + last + ") = " + (last - first + 1));
        Boundary.expect("messages()", group.messages(), last - first + 1);
        for (int i = 0; i < group.messages(); i++) {
            Boundary.expect("the circuit of a message", group.message(i, 2), first + i);
        }
        for (int circuit = 0; circuit < 12; circuit++) {
            int state = circuit >= first && circuit <= last ? TrunkGroup.RESETTING : TrunkGroup.IDLE;
            Boundary.expect("the state of end " + circuit, group.end(1, circuit, 0), state);
            Boundary.expect("the state of the other end " + circuit, group.end(0, circuit, 0), TrunkGroup.IDLE);
        }
    }

    // ---- time and values

    private static void promise15() {
        sentence(15, "ticks: 1 to 500; throws IllegalArgumentException if ticks is out of range");
        for (int ticks = 1; ticks <= 500; ticks++) {
            Boundary.run("tick(" + ticks + ") = 0; time() = " + ticks);
        }
        Boundary.outside("", "tick(?)", 1, 500, ARGUMENT);
        Boundary.outside(BUSY, "tick(?)", 1, 500, ARGUMENT);
        sentence(15, "Returns the number of messages that were received");
        Boundary.run("tick(1) = 0; reset(0, 0, 3); tick(1) = 0; tick(1) = 4; tick(1) = 0; tick(1) = 4; tick(500) = 0");
        Boundary.run("reset(0, 0, 3); loseNext(1, 1); tick(4) = 7; tick(16) = 0; tick(4) = 2");
    }

    private static void promise16() {
        sentence(16, "Returns the time");
        Boundary.run("time() = 0; tick(500); time() = 500; tick(1); time() = 501; tick(501)" + ARGUMENT, "time() = 501; undo(); time() = 500",
            "setCircuits(4); time() = 0; undo(); time() = 500");
    }

    private static void promise17() {
        sentence(17, "what: 0 to 6; throws IllegalArgumentException if what is out of range");
        Boundary.range("", "end(0, 0, ?)", 0, 6, ARGUMENT);
        Boundary.range(BUSY, "end(1, 3, ?)", 0, 6, ARGUMENT);
        sentence(17, "exchange: 0 or 1; circuit: 0 to N - 1; throws IndexOutOfBoundsException if there is no such exchange or circuit");
        Boundary.range(BUSY, "end(?, 3, 0)", 0, 1, BOUNDS);
        for (int n = 1; n <= 12; n++) {
            Boundary.range("setCircuits(" + n + ")", "end(0, ?, 0)", 0, n - 1, BOUNDS);
            Boundary.range("setCircuits(" + n + ")", "end(1, ?, 6)", 0, n - 1, BOUNDS);
        }
        sentence(17, "1 call (NONE without one), 2 timer (0 if it is off), 3 repetitions");
        for (Stages stage : Stages.values()) {
            int call = stage.hasCall() ? 1 : -1;
            boolean off = stage.state == 0 || stage.state == 4 || stage.state < 6 && !stage.origin && stage != Stages.WAITING;
            TrunkGroup group = Boundary.run(Stages.ONE_CIRCUIT, "call(0, false); release(0, 0); tick(2);", stage.at(1));
            Boundary.expect(stage + ": state", group.end(1, 0, 0), stage.state);
            Boundary.expect(stage + ": call", group.end(1, 0, 1), call);
            Boundary.expect(stage + ": timer off", group.end(1, 0, 2) == 0, off);
            Boundary.expect(stage + ": repetitions", group.end(1, 0, 3), 0);
        }
        sentence(17, "6 1 if it waits for CHECKED (or, if it is OUTGOING, the check is still to be done) or 0 if not");
        for (Stages stage : Stages.values()) {
            int waits = stage == Stages.BEFORE_CHECK || stage == Stages.WAITING ? 1 : 0;
            Boundary.run(Stages.ONE_CIRCUIT, stage.at(0), "end(0, 0, 6) = " + waits);
            Boundary.run(Stages.ONE_CIRCUIT, stage.at(1), "end(1, 0, 6) = " + waits);
            Boundary.run(Stages.ONE_CIRCUIT, stage.at(0), "loseNext(0, 1); reset(0, 0, 0); end(0, 0, 6) = 0");
            if (stage.hasCall()) {
                Boundary.run(Stages.ONE_CIRCUIT, stage.at(0), "release(0, 0); end(0, 0, 6) = 0");
            }
        }
        sentence(17, "4 local block, 5 1 if the remote block is on or 0 if not");
        Boundary.run("block(1, 2); end(1, 2, 4) = 1; end(0, 2, 5) = 0; tick(2); end(1, 2, 4) = 1; end(0, 2, 5) = 1; end(0, 2, 4) = 0",
            "end(1, 2, 5) = 0; tick(2); end(1, 2, 4) = 2; unblock(1, 2); end(1, 2, 4) = 3; end(0, 2, 5) = 1; tick(2); end(0, 2, 5) = 0",
            "end(1, 2, 4) = 3; tick(2); end(1, 2, 4) = 0");
    }

    private static void promise18() {
        sentence(18, "Returns 0 to 40");
        TrunkGroup group = Boundary.run(Stages.ONE_CIRCUIT, "calls() = 0");
        for (int number = 0; number < 40; number++) {
            Boundary.more(group, "call(1, false) = " + number, "calls() = " + (number + 1), "release(1, 0); tick(2)");
        }
        Boundary.more(group, "call(1, false)" + STATE, "calls() = 40; setCircuits(1); calls() = 0; undo(); calls() = 40");
    }

    private static void promise19() {
        sentence(19, "call: number of a call; throws IndexOutOfBoundsException if there is no such call");
        Boundary.refused("", "callValue(0, 0)", BOUNDS);
        Boundary.refused("", "callValue(-1, 0)", BOUNDS);
        TrunkGroup group = Boundary.run(Stages.ONE_CIRCUIT);
        for (int number = 0; number < 40; number++) {
            Boundary.more(group, "callValue(" + number + ", 0)" + BOUNDS, "call(1, false) = " + number, "callValue(" + number + ", 0) = 1",
                "release(1, 0); tick(2)", "callValue(-1, 0)" + BOUNDS);
        }
        Boundary.more(group, "callValue(40, 0)" + BOUNDS, "callValue(0, 0) = 1; callValue(39, 0) = 1");
        Boundary.run("call(0, false); call(0, false); undo(); callValue(0, 0) = 0; callValue(1, 0)" + BOUNDS, "setCircuits(4)",
            "callValue(0, 0)" + BOUNDS);
        Boundary.range(BUSY, "callValue(?, 4)", 0, 2, BOUNDS);
        sentence(19, "what: 0 to 4; throws IllegalArgumentException if what is out of range");
        Boundary.range(BUSY, "callValue(0, ?)", 0, 4, ARGUMENT);
        Boundary.range(BUSY, "callValue(2, ?)", 0, 4, ARGUMENT);
        sentence(19, "4 cause (NONE if it has not ended)");
        Boundary.run(Stages.ONE_CIRCUIT, Stages.SUSPENDED_ORIGIN.at(0), "callValue(0, 4) = NONE; resume(1, 0); tick(1); callValue(0, 4) = NONE",
            "release(1, 0); callValue(0, 4) = NONE; tick(1); callValue(0, 4) = NORMAL; tick(100); callValue(0, 4) = NORMAL");
        Boundary.run("call(0, false); callValue(0, 4) = NONE; tick(29); callValue(0, 4) = NONE; tick(1); callValue(0, 4) = TIMEOUT");
    }

    private static void promise20() {
        sentence(20, "Returns the number of messages that are on their way");
        Boundary.run("messages() = 0; loseNext(0, 1); reset(0, 0, 0); messages() = 0; reset(0, 0, 0); messages() = 1; reset(0, 1, 3); messages() = 4",
            "tick(1); messages() = 4; tick(1); messages() = 4; tick(2); messages() = 0; undo(); messages() = 4; setCircuits(4); messages() = 0");
        // Far more messages than anybody would think of at once, and none is dropped.
        TrunkGroup group = Boundary.run("setCircuits(12); setDelay(20)");
        for (int i = 1; i <= 500; i++) {
            group.reset(i % 2, 0, 11);
            Boundary.expect("messages()", group.messages(), 12 * i);
        }
        Boundary.more(group, "tick(19) = 0; messages() = 6000; tick(1) = 6000; messages() = 6024; message(6023, 0) = 20; message(6024, 0)" + BOUNDS);
    }

    private static void promise21() {
        sentence(21, "index: number of the message, from 0; throws IndexOutOfBoundsException if there is no such message");
        Boundary.refused("", "message(0, 0)", BOUNDS);
        Boundary.refused("", "message(-1, 0)", BOUNDS);
        Boundary.range("reset(0, 0, 2)", "message(?, 2)", 0, 2, BOUNDS);
        Boundary.run("reset(0, 0, 2); message(2, 2) = 2; tick(2); message(2, 2) = 2; tick(2); message(0, 2)" + BOUNDS);
        Boundary.run("setCircuits(12); reset(0, 0, 11); reset(0, 0, 11); reset(0, 0, 11); message(35, 2) = 11; message(36, 2)" + BOUNDS,
            "undo(); message(23, 2) = 11; message(24, 2)" + BOUNDS, "loseNext(0, 1); reset(0, 5, 5); message(24, 2)" + BOUNDS);
        sentence(21, "what: 0 to 4; throws IllegalArgumentException if what is out of range");
        Boundary.range("reset(0, 0, 2)", "message(2, ?)", 0, 4, ARGUMENT);
        sentence(21, "in the order of their arrival, and then in the order in which they were sent");
        Boundary.run("setCircuits(6); setDelay(20); reset(0, 0, 0); setDelay(19); reset(1, 1, 1); setDelay(20); reset(0, 2, 2); tick(1)",
            "setDelay(19); reset(0, 3, 3); setDelay(18); reset(0, 4, 4); setDelay(1); reset(1, 5, 5); messages() = 6",
            "message(0, 2) = 5; message(1, 2) = 1; message(2, 2) = 4; message(3, 2) = 0; message(4, 2) = 2; message(5, 2) = 3",
            "message(0, 0) = 1; message(1, 0) = 18; message(2, 0) = 18; message(3, 0) = 19; message(4, 0) = 19; message(5, 0) = 19");
        sentence(21, "0 ticks until it arrives");
        Boundary.run("setDelay(20); reset(0, 0, 0); message(0, 0) = 20; tick(19); message(0, 0) = 1; tick(1) = 1");
        sentence(21, "1 sending exchange, 2 circuit, 3 kind, 4 value (0 if it has none)");
        Boundary.run("setCircuits(12); call(1, true); message(0, 1) = 1; message(0, 2) = 1; message(0, 3) = SEIZE; message(0, 4) = 1",
            "reset(0, 11, 11); message(1, 1) = 0; message(1, 2) = 11; message(1, 3) = RESET; message(1, 4) = 0");
    }

    private static void promise22() {
        sentence(22, "exchange: the origin, 0 or 1; throws IndexOutOfBoundsException if there is no such exchange");
        Boundary.range("", "choice(?)", 0, 1, BOUNDS);
        Boundary.range("setCircuits(1); call(0, false)", "choice(?)", 0, 1, BOUNDS);
        sentence(22, "Returns the circuit; NONE if there is none");
        Boundary.run("setCircuits(1); choice(0) = 0; choice(1) = 0; call(0, false); choice(0) = NONE; choice(1) = 0; tick(2); choice(1) = NONE");
        Boundary.run("setCircuits(12); reset(1, 0, 10); choice(1) = 11; reset(1, 11, 11); choice(1) = NONE; choice(0) = 0; tick(4); choice(1) = 1");
        Boundary.run("setCircuits(2); block(0, 0); block(0, 1); choice(0) = NONE; choice(1) = 1; tick(2); choice(1) = NONE");
    }

    private static void promise23() {
        sentence(23, "what: 0 to 4; throws IllegalArgumentException if what is out of range");
        Boundary.range("", "count(?)", 0, 4, ARGUMENT);
        Boundary.range(BUSY, "count(?)", 0, 4, ARGUMENT);
        sentence(23, "Returns the number of these circuits");
        Boundary.run("setCircuits(12); count(0) = 12; count(1) = 0; count(2) = 0; count(3) = 0; count(4) = 0; reset(0, 0, 11); count(0) = 0",
            "count(3) = 12; reset(1, 0, 11); count(3) = 12; tick(4); count(0) = 12; count(3) = 0");
        for (Stages stage : Stages.values()) {
            countsAt(stage);
        }
        bothEndsHaveCalls();
        sentence(23, "4 some local block that is not NOT_BLOCKED");
        TrunkGroup group = Boundary.run("setCircuits(12); setDelay(1)");
        for (int circuit = 0; circuit < 12; circuit++) {
            Boundary.more(group, "block(" + circuit % 2 + ", " + circuit + "); count(4) = " + (circuit + 1));
        }
        Boundary.more(group, "count(0) = 12; tick(2); count(4) = 12; block(1, 0); count(4) = 12; tick(2); unblock(0, 0); tick(2); count(4) = 12",
            "unblock(1, 0); count(4) = 12; tick(1); count(4) = 12; tick(1); count(4) = 11");
    }

    private static void countsAt(Stages stage) {
        boolean idle = stage == Stages.IDLE;
        boolean talking = stage == Stages.TALKING || stage == Stages.TALKING_ORIGIN;
        boolean clearing = stage == Stages.RELEASING || stage == Stages.RESETTING;
        for (int exchange = 0; exchange < 2; exchange++) {
            sentence(23, "0 both ends IDLE, 1 both ends TALKING with the same call, 2 both ends have a call, but not the same one, 3 at least"
                + " one end RELEASING or RESETTING");
            Boundary.run(Stages.ONE_CIRCUIT, stage.at(exchange), "count(0) = " + (idle ? 1 : 0), "count(1) = " + (talking ? 1 : 0),
                "count(2) = 0", "count(3) = " + (clearing ? 1 : 0), "count(4) = 0");
        }
    }

    private static void bothEndsHaveCalls() {
        sentence(23, "2 both ends have a call, but not the same one");
        Boundary.run("setCircuits(1); call(0, false) = 0; count(2) = 0; call(1, false) = 1; count(2) = 1; tick(2); count(2) = 0; count(1) = 0");
        Boundary.run("setCircuits(1); call(1, false) = 0; count(2) = 0; call(0, false) = 1; count(2) = 1; tick(2); count(2) = 0");
        Boundary.run("setCircuits(1); setDelay(1); call(0, false); release(0, 0); tick(2); call(1, false) = 1; call(0, false) = 2; count(2) = 1");
        Boundary.run("setCircuits(2); call(1, false); call(1, false); count(2) = 0; call(0, false); count(2) = 1; call(0, false); count(2) = 2",
            "release(1, 0); count(2) = 1; release(0, 1); count(2) = 0");
        sentence(23, "1 both ends TALKING with the same call");
        // One end answers, and the other end does not know of it yet; then both talk; then one of them alone.
        Boundary.run(Stages.ONE_CIRCUIT, Stages.RINGING.at(0), "answer(0, 0); count(1) = 0; tick(1); count(1) = 1; suspend(0, 0); count(1) = 0");
        Boundary.run(Stages.ONE_CIRCUIT, Stages.RINGING.at(1), "answer(1, 0); count(1) = 0; tick(1); count(1) = 1; suspend(1, 0); count(1) = 0");
        Boundary.run(Stages.ONE_CIRCUIT, Stages.TALKING.at(1), "count(1) = 1; release(0, 0); count(1) = 0; end(1, 0, 0) = TALKING");
        Boundary.run(Stages.ONE_CIRCUIT, Stages.TALKING.at(1), "count(1) = 1; release(1, 0); count(1) = 0; end(0, 0, 0) = TALKING");
        // A late ANSWER of call 0 lets the end of exchange 0 talk with call 1 while the other end only rings.
        Boundary.run(Stages.ONE_CIRCUIT, "call(0, false); tick(1); accept(1, 0); setDelay(9); answer(1, 0); setDelay(1); release(0, 0); tick(2)",
            "call(0, false); tick(1); accept(1, 0); tick(6); end(0, 0, 0) = TALKING; end(1, 0, 0) = RINGING; count(1) = 0; count(2) = 0");
    }

    private static void promise24() {
        sentence(24, "what: 0 to 4; throws IllegalArgumentException if what is out of range");
        Boundary.range("", "total(?)", 0, 4, ARGUMENT);
        Boundary.range(BUSY, "total(?)", 0, 4, ARGUMENT);
        sentence(24, "how often something has happened since setCircuits()");
        Boundary.run("setCircuits(1); loseNext(0, 1); reset(0, 0, 0); tick(24); call(0, false); call(1, true); tick(2); total(0) = 5; total(1) = 1",
            "total(2) = 2; total(3) = 1; total(4) = 2; setCircuits(1); total(0) = 0; total(1) = 0; total(2) = 0; total(3) = 0; total(4) = 0",
            "undo(); total(0) = 5; total(1) = 1; total(2) = 2; total(3) = 1; total(4) = 2");
        sentence(24, "0 messages sent (lost ones included), 1 messages lost");
        Boundary.run("loseNext(0, 2); reset(0, 0, 3); total(0) = 4; total(1) = 2; messages() = 2");
        sentence(24, "2 glares (SEIZE at an OUTGOING end, whoever controls the circuit)");
        Boundary.run("setCircuits(1); call(0, false); tick(1); call(1, false); tick(1); total(2) = 1; tick(1); total(2) = 2",
            "tick(500); total(2) = 2");
        Boundary.run("setCircuits(1); loseNext(0, 1); call(0, false); call(1, false); tick(2); total(2) = 1; end(1, 0, 0) = OUTGOING");
        Boundary.run("setCircuits(1); loseNext(1, 1); call(0, false); call(1, false); tick(2); total(2) = 1; end(1, 0, 0) = INCOMING");
        sentence(24, "3 timers that were over (block timers not)");
        Boundary.run("loseNext(0, 100); block(0, 0); tick(100); total(0) = 11; total(3) = 0; unblock(0, 0); tick(100); total(3) = 0");
        sentence(24, "4 attempts");
        Boundary.run("setFaulty(0, true); setFaulty(2, true); call(0, true); total(4) = 1; tick(3); total(4) = 2; tick(2)",
            "total(4) = 3; tick(3); total(4) = 3");
    }

    // ---- undo and checksum

    private static void promise25() {
        sentence(25, "Throws IllegalStateException if the stack is empty");
        Boundary.refused("", "undo()", STATE);
        Boundary.refused("tick(1); undo()", "undo()", STATE);
        Boundary.refused("tick(1); tick(1); tick(1); tick(1); tick(1); undo(); undo(); undo()", "undo()", STATE);
        Boundary.run("undo()" + STATE, "undo()" + STATE, "tick(1); undo() = 0; undo()" + STATE, "tick(2); undo() = 0; time() = 0");
        sentence(25, "Returns the number of states that are left on the stack");
        Boundary.run("tick(1); undo() = 0; tick(1); tick(1); undo() = 1; undo() = 0; tick(1); tick(1); tick(1); undo() = 2; undo() = 1; undo() = 0",
            "tick(1); tick(1); tick(1); tick(1); undo() = 2; tick(1); undo() = 2; undo() = 1; tick(1); undo() = 1; undo() = 0");
        sentence(25, "Restores the latest saved state and removes it from the undo stack");
        Boundary.undoable(BUSY, "setCircuits(1)");
        // What can't be asked for comes back too: losses, faults, the mark of a check, and the value of a RELEASE to be repeated.
        Boundary.undoable("loseNext(0, 7); loseNext(1, 3); reset(0, 0, 1)", "loseNext(0, 50)");
        Boundary.undoable("loseNext(0, 7); loseNext(1, 3); reset(0, 0, 1)", "setCircuits(4)");
        Boundary.undoable("setFaulty(0, true); setFaulty(2, true); setFaulty(3, true); call(0, true)", "tick(2)");
        Boundary.undoable("loseNext(0, 2); call(0, false); tick(35); end(0, 0, 0) = RELEASING", "tick(1)");
        String busy = BUSY + "setFaulty(0, true); setFaulty(3, true); block(0, 3); block(1, 0); loseNext(0, 5); loseNext(1, 2);"
            + "release(0, 0); tick(12);";
        for (String call : new String[] {"setCircuits(12)", "tick(500)", "reset(0, 0, 3)", "tick(1)", "block(1, 2)", "loseNext(0, 9)"}) {
            Boundary.undoable(busy, call);
            Boundary.undoable(busy + "tick(1); reset(0, 0, 3); undo(); setCircuits(12); call(0, true); tick(9); undo(); undo(); undo();", call);
        }
    }

    private static void promise26() {
        sentence(26, "h becomes 31 * h + v (long arithmetic, overflow wraps)");
        TrunkGroup group = new TrunkGroup();
        wraps(group, 0, 2, new int[] {0, 0}, 4);
        Boundary.more(group, "setCircuits(1)");
        wraps(group, 1, 2, new int[] {0, 0}, 1);
        Boundary.more(group, "setCircuits(12); setDelay(20)");
        boolean positive = false;
        boolean negative = false;
        for (int i = 0; i < 40; i++) {
            group.reset(i % 2, 0, 11);
            wraps(group, 3, 20, new int[] {0, 0}, 12);
            positive |= group.digest() > 0;
            negative |= group.digest() < 0;
        }
        Boundary.expect("positive and negative ones", positive && negative, true);
        sentence(26, "for each circuit 1 if it is faulty or 0 if not .. calls(), and for each call callValue() of 0 to 4");
        for (int circuit = 0; circuit < 12; circuit++) {
            boolean[] faulty = new boolean[12];
            faulty[circuit] = true;
            group = Boundary.run("setCircuits(12); setFaulty(" + circuit + ", true)");
            Boundary.expect("digest()", group.digest(), DigestTold.of(group, 2, 2, new int[2], faulty, new int[24]));
        }
        group = Boundary.run(BUSY, "loseNext(0, 100); loseNext(1, 7)");
        Boundary.expect("digest()", group.digest(), DigestTold.of(group, 3, 3, new int[] {100, 7}, new boolean[4], new int[8]));
        Boundary.more(group, "undo(); undo(); release(0, 0); tick(3)");
        Boundary.expect("digest()", group.digest(), DigestTold.of(group, 3, 3, new int[2], new boolean[4], new int[8]));
        sentence(26, "It starts with h = 12151");
        Boundary.expect("a new object", new TrunkGroup().digest(), DigestTold.of(new TrunkGroup(), 0, 2, new int[2], new boolean[4], new int[8]));
        sentence(26, "the block timer (0 if the local block is neither BLOCKING nor UNBLOCKING)");
        blockTimer("loseNext(1, 100); block(1, 0)", 99);
        blockTimer("block(1, 0); tick(4); loseNext(1, 100); unblock(1, 0)", 99);
        group = Boundary.run("setCircuits(1); block(1, 0); tick(4)");
        Boundary.expect("BLOCKED", group.digest(), DigestTold.of(group, 3, 2, new int[2], new boolean[1], new int[2]));
        group = Boundary.run("setCircuits(1); block(1, 0); tick(4); unblock(1, 0); tick(4)");
        Boundary.expect("NOT_BLOCKED", group.digest(), DigestTold.of(group, 3, 2, new int[2], new boolean[1], new int[2]));
    }

    /** Compares with the same sum in numbers that know no limit; it must lie beyond the limit of a long. */
    private static void wraps(TrunkGroup group, int saved, int delay, int[] toLose, int circuits) {
        BigInteger h = BigInteger.valueOf(12151);
        for (int value : DigestTold.values(group, saved, delay, toLose, new boolean[circuits], new int[2 * circuits])) {
            h = h.multiply(BigInteger.valueOf(31)).add(BigInteger.valueOf(value));
        }
        Boundary.expect("the sum is too large for a long", h.bitLength() > 64, true);
        Boundary.expect("digest()", group.digest(), h.longValue());
    }

    private static void blockTimer(String stage, int toLose) {
        TrunkGroup group = Boundary.run("setCircuits(1)", stage);
        int left = toLose;
        for (int timer = 10; timer > -10; timer--) {
            if (timer == 0) {
                left--;
            }
            int shown = timer > 0 ? timer : timer + 10;
            Boundary.expect("block timer " + shown, group.digest(),
                DigestTold.of(group, 3, 2, new int[] {0, left}, new boolean[1], new int[] {0, shown}));
            group.tick(1);
        }
    }
}
