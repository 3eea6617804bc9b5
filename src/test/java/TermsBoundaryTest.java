/**
 * The sentences of the document's "What it is" and "Terms" that name a boundary, each with a test of its own; what
 * messages do at an end stands in MessagesBoundaryTest.
 */
public final class TermsBoundaryTest {
    private static final String BOUNDS = Boundary.BOUNDS;
    private static final String ARGUMENT = Boundary.ARGUMENT;
    private static final String STATE = Boundary.STATE;

    public static void main(String[] args) {
        callsOnAnObject();
        circuits();
        control();
        atFirst();
        arrival();
        loss();
        values();
        fortyCalls();
        lowestOwnThenHighestOther();
        onlyFreeEnds();
        attemptWithAndWithoutCheck();
        threeAttemptsWithCheck();
        threeAttemptsWithGlare();
        threeAttemptsWithBlockage();
        anotherAttemptIsSettingUp();
        otherCallsGoOn();
        noCircuitForAnotherAttempt();
        latestCircuitLeftOut();
        nothingArrivesInTheTickOfSending();
        orderOfTimers();
        timersOfCalls();
        timersThatAreOff();
        repetitions();
        endsLeaveTheirCalls();
        timersOfResets();
        timersOfBlocks();
        undoSavesAlsoWithoutChange();
        undoSavesOnlyWhatEndsNormally();
        undoKeepsThree();
        exceptionsChangeNothing();
        exceptionListedFirst();
        noneOnlyWithoutException();
        Boundary.finish();
    }

    // ---- what it is

    private static void callsOnAnObject() {
        Boundary.sentence("An object is used for at most 512 calls after it has been made");
        TrunkGroup group = new TrunkGroup();
        for (int i = 0; i < 511; i++) {
            Boundary.expect("tick(500)", group.tick(500), 0);
        }
        Boundary.expect("the 512th call, time()", group.time(), 511 * 500);
        group = Boundary.run("setCircuits(12) = 4; setDelay(20) = 2");
        for (int i = 0; i < 509; i++) {
            Boundary.expect("reset(0, 0, 11)", group.reset(0, 0, 11), i == 0 ? 12 : 0);
        }
        Boundary.expect("the 512th call, tick(20)", group.tick(20), 509 * 12);
    }

    // ---- circuits and exchanges

    private static void circuits() {
        Boundary.sentence("N circuits (1 to 12, 4 at first), numbered from 0");
        Boundary.run("end(0, 0, 0) = IDLE; end(1, 3, 0) = IDLE; end(0, 4, 0)" + BOUNDS, "end(1, -1, 0)" + BOUNDS, "count(0) = 4");
        for (int n = 1; n <= 12; n++) {
            Boundary.run("setCircuits(" + n + ") = 4; count(0) = " + n + "; end(0, 0, 0) = IDLE; end(1, 0, 0) = IDLE",
                "end(0, " + (n - 1) + ", 0) = IDLE; end(1, " + (n - 1) + ", 0) = IDLE",
                "end(0, " + n + ", 0)" + BOUNDS, "end(1, " + n + ", 0)" + BOUNDS, "end(0, -1, 0)" + BOUNDS);
        }
    }

    private static void control() {
        Boundary.sentence("Exchange 0 controls the circuits with even numbers, exchange 1 those with odd numbers");
        for (int circuit = 0; circuit < 12; circuit++) {
            TrunkGroup group = Boundary.run("setCircuits(12)");
            for (int other = 0; other < 12; other++) {
                if (other != circuit) {
                    Boundary.more(group, "block(0, " + other + "); block(1, " + other + ")");
                }
            }
            int winner = circuit % 2;
            String at = ", " + circuit + ", ";
            Boundary.more(group, "call(0, false) = 0; call(1, false) = 1; callValue(0, 1) = " + circuit,
                "callValue(1, 1) = " + circuit + "; tick(2); total(2) = 2", "end(" + winner + at + "0) = OUTGOING",
                "end(" + winner + at + "1) = " + winner, "end(" + (1 - winner) + at + "0) = INCOMING",
                "end(" + (1 - winner) + at + "1) = " + winner, "callValue(" + (1 - winner) + ", 4) = GLARE",
                "callValue(" + winner + ", 4) = NONE");
        }
    }

    private static void atFirst() {
        Boundary.sentence("An end has a state, IDLE at first, a call (none at first), a timer (off at first), a number of"
            + " repetitions, a local block and a remote block");
        endsAtFirst(new TrunkGroup(), 4);
        endsAtFirst(Boundary.run("setCircuits(12)"), 12);
        Boundary.sentence("A circuit may be faulty (not at first)");
        for (int circuit = 0; circuit < 12; circuit++) {
            Boundary.run("setCircuits(12); setFaulty(" + circuit + ", false) = false");
        }
    }

    private static void endsAtFirst(TrunkGroup group, int circuits) {
        int[] want = {0, -1, 0, 0, 0, 0, 0};
        for (int exchange = 0; exchange < 2; exchange++) {
            for (int circuit = 0; circuit < circuits; circuit++) {
                for (int what = 0; what < want.length; what++) {
                    Boundary.expect("end " + what, group.end(exchange, circuit, what), want[what]);
                }
            }
        }
    }

    // ---- messages

    private static void arrival() {
        Boundary.sentence("A message arrives D ticks after it was sent, with the delay D (1 to 20, 2 at first)");
        Boundary.run("call(0, false); tick(1) = 0; end(1, 0, 0) = IDLE; tick(1) = 1; end(1, 0, 0) = INCOMING");
        for (int delay = 1; delay <= 20; delay++) {
            TrunkGroup group = Boundary.run("setDelay(" + delay + "); call(0, false); message(0, 0) = " + delay);
            for (int left = delay - 1; left > 0; left--) {
                Boundary.more(group, "tick(1) = 0; end(1, 0, 0) = IDLE; message(0, 0) = " + left);
            }
            Boundary.more(group, "tick(1) = 1; end(1, 0, 0) = INCOMING; messages() = 0");
        }
        Boundary.sentence("with the delay of the time when it was sent");
        Boundary.run("call(0, false); setDelay(20); message(0, 0) = 2; tick(2) = 1; end(1, 0, 0) = INCOMING");
        Boundary.run("setDelay(20); call(0, false); setDelay(1); message(0, 0) = 20; tick(19) = 0; tick(1) = 1");
        Boundary.run("reset(0, 0, 0); setDelay(20); tick(2) = 1; message(0, 0) = 20; setDelay(1); tick(17) = 0",
            "messages() = 1; tick(1) = 0; message(0, 0) = 1; message(1, 0) = 2; tick(1) = 1; tick(1) = 2; end(0, 0, 0) = IDLE");
    }

    private static void loss() {
        Boundary.sentence("Messages that are lost never arrive");
        Boundary.run("loseNext(0, 100); call(0, false); messages() = 0; tick(500) = 0; total(0) = 27; total(1) = 27");
        for (int count : new int[] {0, 1, 2, 3, 50, 99, 100}) {
            TrunkGroup group = Boundary.run("loseNext(1, " + count + ")");
            for (int i = 0; i < count; i++) {
                Boundary.more(group, "reset(1, 0, 0); messages() = 0");
            }
            Boundary.more(group, "total(1) = " + count, "reset(1, 0, 0); messages() = 1; total(1) = " + count, "tick(2) = 1");
        }
    }

    private static void values() {
        Boundary.sentence("Messages of the kinds SEIZE, CHECKED and RELEASE have a value");
        Boundary.run("setDelay(1); call(0, true); message(0, 3) = SEIZE; message(0, 4) = 1; tick(3)",
            "message(0, 3) = CHECKED; message(0, 4) = 1; tick(1)",
            "accept(1, 0); message(0, 3) = COMPLETE; message(0, 4) = 0; tick(1)",
            "answer(1, 0); message(0, 3) = ANSWER; message(0, 4) = 0; tick(1)",
            "suspend(1, 0); message(0, 3) = SUSPEND; message(0, 4) = 0; tick(1)",
            "resume(1, 0); message(0, 3) = RESUME; message(0, 4) = 0; tick(1); suspend(1, 0); tick(40)",
            "message(0, 3) = RELEASE; message(0, 4) = TIMEOUT; tick(1); message(0, 3) = RELEASED; message(0, 4) = 0; tick(1)");
        Boundary.run("setDelay(1); block(1, 0); message(0, 3) = BLOCK; message(0, 4) = 0; tick(1)",
            "message(0, 3) = BLOCK_DONE; message(0, 4) = 0; tick(1)",
            "unblock(1, 0); message(0, 3) = UNBLOCK; message(0, 4) = 0; tick(1)",
            "message(0, 3) = UNBLOCK_DONE; message(0, 4) = 0; tick(1)",
            "reset(1, 0, 0); message(0, 3) = RESET; message(0, 4) = 0; tick(1)",
            "message(0, 3) = RESET_DONE; message(0, 4) = 0");
        Boundary.run("call(0, false); message(0, 3) = SEIZE; message(0, 4) = 0; release(0, 0); message(1, 4) = NORMAL");
        Boundary.run("setCircuits(1); setDelay(1); setFaulty(0, true); call(0, true); tick(3); message(0, 3) = CHECKED; message(0, 4) = 0");
        // Those that a timer or a RESET calls forth have none either.
        Boundary.run("setDelay(1); loseNext(0, 1); reset(0, 3, 3); tick(20); message(0, 3) = RESET; message(0, 4) = 0");
        Boundary.run("setDelay(1); loseNext(0, 1); block(0, 3); tick(10); message(0, 3) = BLOCK; message(0, 4) = 0; tick(2); loseNext(0, 1)",
            "unblock(0, 3); tick(10); message(0, 3) = UNBLOCK; message(0, 4) = 0");
        Boundary.run("setDelay(1); block(0, 3); tick(2); reset(1, 3, 3); tick(1); message(0, 3) = RESET_DONE; message(0, 4) = 0",
            "message(1, 3) = BLOCK; message(1, 4) = 0");
    }

    // ---- calls

    private static void fortyCalls() {
        Boundary.sentence("Calls are numbered from 0 as they are begun; at most 40 are begun");
        TrunkGroup group = Boundary.run(Stages.ONE_CIRCUIT);
        for (int number = 0; number < 39; number++) {
            int exchange = number % 2;
            Boundary.more(group, "call(" + exchange + ", false) = " + number, "calls() = " + (number + 1),
                "release(" + exchange + ", 0) = " + number, "tick(2) = 3");
        }
        Boundary.more(group, "call(0, true) = 39; calls() = 40; undo(); calls() = 39; call(0, false) = 39; release(0, 0) = 39",
            "tick(2) = 3; choice(0) = 0; choice(1) = 0; call(0, false)" + STATE, "call(1, true)" + STATE, "calls() = 40",
            "callValue(39, 3) = ENDED; callValue(0, 3) = ENDED; callValue(40, 3)" + BOUNDS);
        Boundary.more(group, "setCircuits(1); calls() = 0; call(1, false) = 0");
    }

    private static void lowestOwnThenHighestOther() {
        Boundary.sentence("the one with the lowest number that the origin controls; if there is none, the one with the highest"
            + " number of the others");
        for (int n = 1; n <= 12; n++) {
            for (int exchange = 0; exchange < 2; exchange++) {
                TrunkGroup group = Boundary.run("setCircuits(" + n + ")");
                int calls = 0;
                for (int own = exchange; own < n; own += 2) {
                    callChooses(group, exchange, calls++, own);
                }
                for (int other = n - 1; other >= 0; other--) {
                    if (other % 2 != exchange) {
                        callChooses(group, exchange, calls++, other);
                    }
                }
                Boundary.expect("calls()", group.calls(), n);
                Boundary.more(group, "choice(" + exchange + ") = NONE; call(" + exchange + ", false)" + STATE);
            }
        }
    }

    private static void callChooses(TrunkGroup group, int exchange, int number, int circuit) {
        Boundary.more(group, "choice(" + exchange + ") = " + circuit, "call(" + exchange + ", false) = " + number,
            "callValue(" + number + ", 1) = " + circuit, "end(" + exchange + ", " + circuit + ", 0) = OUTGOING");
    }

    private static void onlyFreeEnds() {
        Boundary.sentence("all circuits whose end at the origin is IDLE with the local block NOT_BLOCKED and the remote block off");
        for (int exchange = 0; exchange < 2; exchange++) {
            for (Stages stage : Stages.values()) {
                boolean free = stage == Stages.IDLE;
                chooses(exchange, Stages.ONE_CIRCUIT + stage.at(exchange), free);
            }
            String lost = Stages.ONE_CIRCUIT + "loseNext(0, 100); loseNext(1, 100);";
            chooses(exchange, Stages.of(lost + "block(e, 0)", exchange), false);
            chooses(exchange, Stages.of(Stages.ONE_CIRCUIT + "block(e, 0); tick(2)", exchange), false);
            chooses(exchange, Stages.of(lost + "block(e, 0); unblock(e, 0)", exchange), false);
            chooses(exchange, Stages.of(Stages.ONE_CIRCUIT + "block(e, 0); tick(2); unblock(e, 0); tick(2)", exchange), true);
            chooses(exchange, Stages.of(Stages.ONE_CIRCUIT + "block(o, 0)", exchange), true);
            chooses(exchange, Stages.of(Stages.ONE_CIRCUIT + "block(o, 0); tick(1)", exchange), false);
            chooses(exchange, Stages.of(Stages.ONE_CIRCUIT + "block(o, 0); tick(2); unblock(o, 0); tick(1)", exchange), true);
            chooses(exchange, Stages.of(Stages.ONE_CIRCUIT + "loseNext(o, 1); reset(o, 0, 0)", exchange), true);
        }
    }

    private static void chooses(int exchange, String stage, boolean free) {
        String choice = "choice(" + exchange + ") = ";
        if (free) {
            Boundary.run(stage, choice + "0; call(" + exchange + ", false)");
        } else {
            Boundary.run(stage, choice + "NONE");
            Boundary.refused(stage, "call(" + exchange + ", false)", STATE);
        }
    }

    private static void attemptWithAndWithoutCheck() {
        Boundary.sentence("SEIZE is sent with the value 1 if the circuit is to be checked or 0 if not, and the timer of the end is"
            + " set to 3 if it is to be checked, or to 30 if not");
        Boundary.run("call(1, true); message(0, 4) = 1; end(1, 1, 2) = 3; end(1, 1, 6) = 1; total(0) = 1; callValue(0, 2) = 1");
        Boundary.run("call(1, false); message(0, 4) = 0; end(1, 1, 2) = 30; end(1, 1, 6) = 0; total(0) = 1; callValue(0, 2) = 1");
        Boundary.run("setFaulty(1, true); call(1, true); tick(3); message(1, 3) = SEIZE; message(1, 2) = 3; message(1, 4) = 1",
            "end(1, 3, 2) = 2; end(1, 3, 6) = 1");
    }

    private static void threeAttemptsWithCheck() {
        Boundary.sentence("if it has made fewer than 3 attempts and there is a circuit for another one .. it makes it at once;"
            + " otherwise it ends with this cause (CHECK)");
        Boundary.run("setCircuits(12); setFaulty(0, true); setFaulty(2, true); call(0, true) = 0; tick(2); callValue(0, 2) = 1",
            "tick(1); callValue(0, 2) = 2; callValue(0, 1) = 2; callValue(0, 3) = SETTING_UP; callValue(0, 4) = NONE; tick(1)",
            "callValue(0, 2) = 2; tick(1); callValue(0, 2) = 3; callValue(0, 1) = 0; callValue(0, 3) = SETTING_UP; tick(2)",
            "callValue(0, 3) = SETTING_UP; tick(1); callValue(0, 2) = 3; callValue(0, 1) = 0; callValue(0, 3) = ENDED",
            "callValue(0, 4) = CHECK; total(4) = 3; choice(0) = 0");
    }

    private static void threeAttemptsWithGlare() {
        Boundary.sentence("if it has made fewer than 3 attempts .. otherwise it ends with this cause (GLARE)");
        // The SEIZE of circuit 4 arrives first, then that of 2, then that of 0: each meets the call of exchange 1.
        Boundary.run("setCircuits(7); block(1, 1); block(1, 3); block(1, 5); tick(4); loseNext(0, 1); reset(1, 6, 6); tick(2)",
            "setDelay(20); call(0, false) = 0; setDelay(18); call(0, false) = 1; setDelay(16); call(0, false) = 2; tick(14)",
            "setDelay(1); end(1, 6, 0) = RESETTING; callValue(0, 1) = 0; callValue(1, 1) = 2; callValue(2, 1) = 4",
            "call(1, false) = 3; callValue(3, 1) = 4; tick(1); callValue(3, 1) = 4; callValue(3, 2) = 1; tick(1)",
            "callValue(3, 1) = 2; callValue(3, 2) = 2; callValue(3, 3) = SETTING_UP; callValue(3, 4) = NONE",
            "end(1, 4, 0) = INCOMING; end(1, 4, 1) = 2; tick(2); callValue(3, 1) = 0; callValue(3, 2) = 3",
            "callValue(3, 3) = SETTING_UP; end(1, 2, 0) = INCOMING; end(1, 2, 1) = 1; tick(1); callValue(3, 3) = SETTING_UP",
            "unblock(1, 1); tick(1); callValue(3, 3) = ENDED; callValue(3, 4) = GLARE; callValue(3, 2) = 3; callValue(3, 1) = 0",
            "end(1, 0, 0) = INCOMING; end(1, 0, 1) = 0");
        Boundary.run("setCircuits(12); block(1, 1); block(1, 3); block(1, 5); block(1, 7); block(1, 9); block(1, 11); tick(4)",
            "block(0, 0); block(0, 2); block(0, 4); block(0, 6); block(0, 8); loseNext(1, 0); call(1, false) = 0",
            "callValue(0, 1) = 10; call(0, false) = 1; callValue(1, 1) = 10; tick(2); callValue(0, 2) = 1; callValue(0, 4) = GLARE");
    }

    private static void threeAttemptsWithBlockage() {
        Boundary.sentence("if it has made fewer than 3 attempts .. otherwise it ends with this cause (BLOCKAGE)");
        Boundary.run("setDelay(1); loseNext(1, 2); block(1, 0); block(1, 2); call(0, false) = 0; tick(1); callValue(0, 2) = 1",
            "tick(1); callValue(0, 2) = 2; callValue(0, 1) = 2; callValue(0, 3) = SETTING_UP; callValue(0, 4) = NONE; tick(1)",
            "callValue(0, 2) = 2; tick(1); callValue(0, 2) = 3; callValue(0, 1) = 0; callValue(0, 3) = SETTING_UP; tick(1)",
            "callValue(0, 3) = SETTING_UP; tick(1); callValue(0, 3) = ENDED; callValue(0, 4) = BLOCKAGE; callValue(0, 2) = 3",
            "callValue(0, 1) = 0; choice(0) = 0; total(4) = 3");
    }

    private static void anotherAttemptIsSettingUp() {
        Boundary.sentence("the phase of the call becomes SETTING_UP");
        // A late RELEASE of call 0, with the value BLOCKAGE, meets call 1 on the same circuit.
        String late = "setCircuits(2); setDelay(1); loseNext(1, 1); block(1, 0); call(0, false) = 0; call(0, false) = 1; setDelay(20); tick(1);"
            + "setDelay(1); unblock(1, 0); reset(1, 0, 1); tick(2); callValue(0, 4) = RESETTING_CAUSE; count(0) = 2; messages() = 1; tick(10);"
            + "call(0, false) = 2; callValue(2, 1) = 0; tick(1);";
        String again = "message(0, 0) = %; tick(%); callValue(2, 3) = SETTING_UP; callValue(2, 4) = NONE; callValue(2, 2) = 2;"
            + "callValue(2, 1) = 1; end(0, 0, 0) = IDLE; end(0, 1, 0) = OUTGOING; end(0, 1, 2) = 29";
        Boundary.run(late, again.replace("%", "7"));
        Boundary.run(late, "accept(1, 0); tick(1); callValue(2, 3) = IN_RINGING", again.replace("%", "6"));
        Boundary.run(late, "accept(1, 0); answer(1, 0); tick(1); callValue(2, 3) = IN_TALKING", again.replace("%", "6"));
        Boundary.run(late, "accept(1, 0); answer(1, 0); suspend(1, 0); tick(1); callValue(2, 3) = IN_SUSPENSION", again.replace("%", "6"));
    }

    private static void otherCallsGoOn() {
        Boundary.sentence("When an end that is the origin of its call leaves this call for another reason, the call ends (and no other call)");
        // Calls 0 and 1 talk, one of each exchange, while others come and go on circuits 2 and 3.
        String talking = "setDelay(1); call(0, false) = 0; call(1, false) = 1; tick(1); accept(1, 0); accept(0, 1); answer(1, 0);"
            + "answer(0, 1); tick(1); count(1) = 2;";
        String still = "; count(1) = 2; callValue(0, 3) = IN_TALKING; callValue(1, 3) = IN_TALKING; tick(60); count(1) = 2; callValue(0, 4) = NONE;"
            + "callValue(1, 4) = NONE";
        for (int exchange = 0; exchange < 2; exchange++) {
            String call = "call(e, false) = 2; tick(1);";
            String[] lives = {call + "release(e, k); tick(2)", call + "release(o, k); tick(2)", call + "reset(e, k, k); tick(2)",
                call + "reset(o, k, k); tick(2)", "call(e, true) = 2; tick(40)",
                "setFaulty(2, true); setFaulty(3, true); call(e, true) = 2; tick(40)",
                "call(0, false) = 2; call(0, false) = 3; call(1, false) = 4; call(1, false) = 5; tick(1); total(2) = 4; tick(5)",
                "loseNext(o, 1); block(o, k); call(e, false) = 2; tick(5)", "call(e, true) = 2; tick(1); loseNext(e, 9); tick(30)",
                "loseNext(e, 9); call(e, false) = 2; tick(90)"};
            for (String life : lives) {
                Boundary.run(talking, Stages.of(life, exchange).replaceAll("\\bk\\b", Integer.toString(2 + exchange)) + still);
            }
        }
    }

    private static void noCircuitForAnotherAttempt() {
        Boundary.sentence("there is a circuit for another one .. otherwise it ends with this cause (no circuit is left)");
        Boundary.run("setCircuits(2); setFaulty(0, true); call(0, true) = 0; call(0, false) = 1; callValue(1, 1) = 1; tick(3)",
            "callValue(0, 3) = ENDED; callValue(0, 4) = CHECK; callValue(0, 2) = 1; callValue(0, 1) = 0; total(4) = 2");
        Boundary.run("setCircuits(2); setFaulty(0, true); block(1, 1); tick(2); call(0, true) = 0; tick(3)",
            "callValue(0, 4) = CHECK; callValue(0, 2) = 1");
        Boundary.run("setCircuits(2); call(0, false) = 0; call(1, false) = 1; call(1, false) = 2; callValue(2, 1) = 0; tick(2)",
            "callValue(2, 3) = ENDED; callValue(2, 4) = GLARE; callValue(2, 2) = 1");
        Boundary.run("setCircuits(2); loseNext(1, 1); block(1, 0); call(0, false) = 0; call(0, false) = 1; tick(4)",
            "callValue(0, 3) = ENDED; callValue(0, 4) = BLOCKAGE; callValue(0, 2) = 1; callValue(1, 4) = NONE");
    }

    private static void latestCircuitLeftOut() {
        Boundary.sentence("the circuit of its latest attempt left out");
        Boundary.run("setCircuits(1); setFaulty(0, true); call(0, true) = 0; tick(3); callValue(0, 4) = CHECK; callValue(0, 2) = 1",
            "choice(0) = 0; total(4) = 1");
        Boundary.run("setCircuits(1); loseNext(1, 1); block(1, 0); call(0, false) = 0; tick(4); callValue(0, 4) = BLOCKAGE",
            "callValue(0, 2) = 1; choice(0) = 0; total(4) = 1");
        // Only the latest one is left out: the third attempt takes the circuit of the first.
        Boundary.run("setCircuits(2); setFaulty(0, true); setFaulty(1, true); call(0, true) = 0; tick(3); callValue(0, 1) = 1",
            "tick(1); callValue(0, 1) = 1; tick(1); callValue(0, 1) = 0; callValue(0, 2) = 3");
    }

    // ---- timers

    private static void nothingArrivesInTheTickOfSending() {
        Boundary.sentence("also those that are sent meanwhile, if they arrive now (none does, as the delay is at least 1)");
        Boundary.run("setDelay(1); reset(0, 0, 0); tick(1) = 1; messages() = 1; message(0, 0) = 1; message(0, 3) = RESET_DONE",
            "tick(1) = 1; messages() = 0");
        Boundary.run("setDelay(1); block(0, 0); tick(1) = 1; end(0, 0, 4) = BLOCKING; tick(1) = 1; end(0, 0, 4) = BLOCKED");
    }

    private static void orderOfTimers() {
        Boundary.sentence("for exchange 0 and then 1, for each circuit in ascending order");
        TrunkGroup group = Boundary.run("setCircuits(12); loseNext(0, 24); loseNext(1, 24); reset(1, 0, 11); reset(0, 0, 11)",
            "tick(10)");
        for (int circuit = 11; circuit >= 0; circuit--) {
            Boundary.more(group, "block(1, " + circuit + "); block(0, " + circuit + ")");
        }
        Boundary.more(group, "messages() = 0; tick(10) = 0; messages() = 48");
        for (int i = 0; i < 48; i++) {
            Boundary.more(group, "message(" + i + ", 1) = " + i / 24, "message(" + i + ", 2) = " + i / 2 % 12,
                "message(" + i + ", 3) = " + (i % 2 == 0 ? "RESET" : "BLOCK"));
        }
    }

    /** After so many ticks less one the timer is 1 and the state is still the same; then comes the other state. */
    private static void lasts(String stage, String end, int ticks, String during, String afterwards) {
        TrunkGroup group = Boundary.run(stage);
        int over = group.total(3);
        Boundary.more(group, end + "2) = " + ticks + "; tick(" + (ticks - 1) + ")", end + "2) = 1", end + "0) = " + during,
            "total(3) = " + over, "tick(1)", end + "0) = " + afterwards, "total(3) = " + (over + 1));
    }

    private static void timersOfCalls() {
        Boundary.sentence("OUTGOING, before the check: the check is done");
        lasts("call(0, true)", "end(0, 0, ", 3, "OUTGOING", "OUTGOING; end(0, 0, 2) = 30; end(0, 0, 6) = 0");
        lasts("setCircuits(1); setFaulty(0, true); call(0, true)", "end(0, 0, ", 3, "OUTGOING", "IDLE; callValue(0, 4) = CHECK");
        Boundary.sentence("OUTGOING otherwise .. : the end is released with the cause TIMEOUT");
        String released = "RELEASING; callValue(0, 4) = TIMEOUT; message(0, 3) = RELEASE; message(0, 4) = TIMEOUT;";
        lasts("call(0, false)", "end(0, 0, ", 30, "OUTGOING", released + "end(0, 0, 2) = 10");
        lasts("call(0, true); tick(3)", "end(0, 0, ", 30, "OUTGOING", released + "end(0, 0, 2) = 10");
        Boundary.sentence("RINGING .. : the end is released with the cause TIMEOUT");
        lasts("setDelay(1); call(0, false); tick(1); accept(1, 0); tick(1)", "end(0, 0, ", 59, "RINGING", released + "end(0, 0, 1) = NONE");
        Boundary.sentence("SUSPENDED .. : the end is released with the cause TIMEOUT");
        lasts(Stages.ONE_CIRCUIT + Stages.SUSPENDED_ORIGIN.at(0), "end(0, 0, ", 39, "SUSPENDED", released + "end(0, 0, 3) = 0");
        Boundary.sentence("or INCOMING: the end is released with the cause TIMEOUT (CHECK if it is INCOMING)");
        lasts("setDelay(1); call(0, true); tick(1); loseNext(0, 1); tick(2); tick(1)", "end(1, 0, ", 11, "INCOMING",
            "RELEASING; end(1, 0, 2) = 10; message(0, 3) = RELEASE; message(0, 4) = CHECK; callValue(0, 4) = NONE");
        lasts("call(0, true); tick(2); end(1, 0, 2) = 14; loseNext(0, 1); tick(1)", "end(1, 0, ", 13, "INCOMING", "RELEASING; end(1, 0, 1) = NONE");
    }

    private static void timersThatAreOff() {
        Boundary.sentence("if the timer of the end is on, it decreases by 1");
        for (Stages stage : new Stages[] {Stages.INCOMING, Stages.RINGING, Stages.TALKING, Stages.SUSPENDED}) {
            Boundary.run(Stages.ONE_CIRCUIT, stage.at(1), "loseNext(0, 100); tick(500) ; end(1, 0, 2) = 0; end(1, 0, 0) = " + stage.state);
        }
        Boundary.run(Stages.ONE_CIRCUIT, Stages.TALKING_ORIGIN.at(1), "end(1, 0, 2) = 0; tick(500) = 0; end(1, 0, 0) = TALKING; total(3) = 0");
        Boundary.run("tick(500) = 0; total(3) = 0; count(0) = 4; digest()");
    }

    private static void repetitions() {
        Boundary.sentence("RELEASING: if the number of repetitions is less than 2, it increases by 1, RELEASE is sent again with"
            + " the same value, and the timer is set to 10; otherwise the end is reset");
        String stage = "loseNext(0, 100); call(0, false); release(0, 0);";
        lasts(stage, "end(0, 0, ", 10, "RELEASING", "RELEASING; end(0, 0, 3) = 1; end(0, 0, 2) = 10; total(0) = 3");
        lasts(stage + "tick(10);", "end(0, 0, ", 10, "RELEASING", "RELEASING; end(0, 0, 3) = 2; end(0, 0, 2) = 10; total(0) = 4");
        lasts(stage + "tick(20); loseNext(0, 0);", "end(0, 0, ", 10, "RELEASING",
            "RESETTING; end(0, 0, 3) = 0; end(0, 0, 2) = 20; total(0) = 5; messages() = 1; message(0, 3) = RESET");
        Boundary.run("call(0, false); tick(2); loseNext(1, 2); release(1, 0); tick(20); messages() = 1; message(0, 3) = RELEASE",
            "message(0, 4) = NORMAL; end(1, 0, 3) = 2");
        // The same value: TIMEOUT, CHECK and BLOCKAGE.
        repeats("loseNext(0, 100); call(0, false); tick(30);", 0, TrunkGroup.TIMEOUT);
        repeats("call(0, true); tick(2); loseNext(0, 100); loseNext(1, 100); tick(14);", 1, TrunkGroup.CHECK);
        repeats("loseNext(1, 100); block(1, 0); setDelay(1); call(0, false); tick(1); unblock(1, 0);", 1, TrunkGroup.BLOCKAGE);
        // A new release begins with 0 repetitions.
        Boundary.run("loseNext(0, 3); call(0, false); release(0, 0); tick(20); end(0, 0, 3) = 2; tick(4); end(0, 0, 0) = IDLE",
            "end(0, 0, 3) = 0; loseNext(0, 100); call(0, false); end(0, 0, 3) = 0; release(0, 0); end(0, 0, 3) = 0; tick(29)",
            "end(0, 0, 0) = RELEASING; end(0, 0, 3) = 2; tick(1); end(0, 0, 0) = RESETTING");
    }

    /** The end of circuit 0 is RELEASING, what it sent was lost; now its two repetitions are looked at. */
    private static void repeats(String stage, int exchange, int value) {
        TrunkGroup group = Boundary.run(stage, "end(" + exchange + ", 0, 0) = RELEASING; end(" + exchange + ", 0, 3) = 0",
            "loseNext(0, 0); loseNext(1, 0); setDelay(20); tick(20)", "end(" + exchange + ", 0, 3) = 2");
        int found = 0;
        for (int i = 0; i < group.messages(); i++) {
            if (group.message(i, 1) == exchange && group.message(i, 3) == TrunkGroup.RELEASE) {
                Boundary.expect("the value of a repetition", group.message(i, 4), value);
                found++;
            }
        }
        Boundary.expect("repetitions on their way", found, 2);
    }

    private static void timersOfResets() {
        Boundary.sentence("RESETTING: RESET is sent again, and the timer is set to 20");
        lasts("loseNext(1, 1); reset(1, 2, 2)", "end(1, 2, ", 20, "RESETTING",
            "RESETTING; end(1, 2, 2) = 20; messages() = 1; message(0, 3) = RESET; message(0, 2) = 2; message(0, 1) = 1");
        lasts("loseNext(1, 25); reset(1, 2, 2); tick(480)", "end(1, 2, ", 20, "RESETTING",
            "RESETTING; end(1, 2, 2) = 20; end(1, 2, 3) = 0; messages() = 1; total(1) = 25");
    }

    private static void timersOfBlocks() {
        Boundary.sentence("if the local block is BLOCKING or UNBLOCKING, its block timer decreases by 1, and if it is 0 then, BLOCK"
            + " or UNBLOCK is sent again, and the block timer is set to 10");
        Boundary.run("loseNext(1, 2); block(1, 3); tick(9); total(0) = 1; tick(1); total(0) = 2; tick(9); total(0) = 2; tick(1)",
            "total(0) = 3; messages() = 1; message(0, 1) = 1; message(0, 2) = 3; message(0, 3) = BLOCK; end(1, 3, 4) = BLOCKING");
        Boundary.run("block(1, 3); tick(4); end(1, 3, 4) = BLOCKED; total(0) = 2; tick(500) = 0; total(0) = 2; loseNext(1, 2)",
            "unblock(1, 3); tick(9); total(0) = 3; tick(1); total(0) = 4; tick(9); total(0) = 4; tick(1); total(0) = 5",
            "message(0, 3) = UNBLOCK; tick(4) = 2; end(1, 3, 4) = NOT_BLOCKED; tick(500) = 0; total(0) = 6; total(3) = 0");
        Boundary.run("loseNext(1, 100); block(1, 3); tick(9); unblock(1, 3); total(0) = 2; tick(9); total(0) = 2; tick(1); total(0) = 3",
            "tick(9); block(1, 3); total(0) = 4; tick(9); total(0) = 4; tick(1); total(0) = 5");
    }

    private static void endsLeaveTheirCalls() {
        Boundary.sentence("That an end is released with a cause means: .. if the end is the origin of its call, the call ends with this cause");
        for (Stages stage : Stages.values()) {
            if (stage.hasCall()) {
                String call = stage.origin ? "callValue(1, 3) = ENDED; callValue(1, 4) = NORMAL" : "callValue(1, 4) = NONE";
                Boundary.run(Stages.ONE_CIRCUIT, "call(1, false); release(1, 0); tick(2)", stage.at(0), "release(0, 0) = 1",
                    "end(0, 0, 0) = RELEASING; end(0, 0, 1) = NONE; end(0, 0, 2) = 10; end(0, 0, 3) = 0; message(0, 3) = RELEASE", call);
            }
        }
        Boundary.sentence("That an end is reset means: if it is the origin of its call, the call ends with the cause RESETTING_CAUSE");
        for (Stages stage : Stages.values()) {
            String call = stage.origin ? "callValue(1, 3) = ENDED; callValue(1, 4) = RESETTING_CAUSE" : "callValue(0, 4) = NORMAL";
            if (stage.hasCall() && !stage.origin) {
                call = "callValue(1, 4) = NONE";
            }
            Boundary.run(Stages.ONE_CIRCUIT, "call(1, false); release(1, 0); tick(2)", stage.at(0), "reset(0, 0, 0)",
                "end(0, 0, 0) = RESETTING; end(0, 0, 1) = NONE; end(0, 0, 2) = 20; end(0, 0, 3) = 0; message(0, 3) = RESET; messages() = 1", call);
        }
        Boundary.sentence("otherwise the end is reset (its repetitions are 0 then)");
        Boundary.run("loseNext(0, 100); call(0, false); release(0, 0); tick(20); end(0, 0, 3) = 2; reset(0, 0, 0); end(0, 0, 3) = 0");
    }

    // ---- undo

    private static final String[] UNDOABLE = {"setCircuits(3)", "setDelay(5)", "setFaulty(1, true)", "loseNext(1, 3)",
        "call(1, true)", "accept(1, 0)", "answer(1, 2)", "suspend(1, 4)", "resume(1, 6)", "release(0, 4)", "block(1, 5)",
        "unblock(0, 7)", "reset(0, 0, 7)", "tick(3)"};

    /** One call is coming in, one rings, one talks, one is suspended, one has a SEIZE on its way, and a circuit is blocked. */
    private static final String BUSY = "setCircuits(8); setDelay(1); block(0, 7); call(0, false); call(0, false); call(0, false);"
        + "call(0, false); tick(2); accept(1, 2); accept(1, 4); accept(1, 6); answer(1, 4); answer(1, 6); suspend(1, 6); tick(1);"
        + "setDelay(9); call(1, true); tick(1);";

    private static void undoSavesAlsoWithoutChange() {
        Boundary.sentence("Every method that is marked \"undoable\" saves the whole state on an undo stack when it ends normally");
        for (String call : UNDOABLE) {
            Boundary.undoable(BUSY, call);
            Boundary.undoable(BUSY + "undo();", call);
            Boundary.undoable(BUSY + "undo(); tick(1); undo();", call);
        }
        Boundary.sentence("also if it changes nothing");
        for (String call : new String[] {"setCircuits(4)", "setDelay(2)", "setFaulty(3, false)", "loseNext(0, 0)", "loseNext(1, 0)"}) {
            Boundary.run(call, "undo() = 0; undo()" + STATE);
            Boundary.run(call, call, "undo() = 1; undo() = 0; undo()" + STATE);
            Boundary.undoable("", call);
        }
        Boundary.run("reset(0, 0, 0); reset(0, 0, 0); undo() = 1; messages() = 1; undo() = 0; messages() = 0");
        Boundary.sentence("The saved state is the one from before the call");
        Boundary.run("tick(7); setDelay(3); undo() = 1; time() = 7; setDelay(4) = 2; undo() = 1; undo() = 0; time() = 0");
    }

    private static void undoSavesOnlyWhatEndsNormally() {
        Boundary.sentence("when it ends normally (a call that throws saves nothing)");
        String[] refused = {"setCircuits(0)" + ARGUMENT, "setDelay(21)" + ARGUMENT, "setFaulty(4, true)" + BOUNDS,
            "loseNext(0, 101)" + ARGUMENT, "loseNext(2, 1)" + BOUNDS, "call(2, true)" + BOUNDS, "accept(0, 0)" + STATE,
            "answer(0, 0)" + STATE, "suspend(0, 0)" + STATE, "resume(0, 0)" + STATE, "release(0, 0)" + STATE,
            "block(0, 4)" + BOUNDS, "unblock(0, 0)" + STATE, "reset(0, 1, 0)" + BOUNDS, "tick(0)" + ARGUMENT, "tick(501)" + ARGUMENT};
        for (String call : refused) {
            Boundary.run(call, "undo()" + STATE);
            Boundary.run("tick(1)", call, "undo() = 0; time() = 0; undo()" + STATE);
            Boundary.run("tick(1); tick(1); tick(1)", call, "undo() = 2; time() = 2; undo() = 1; undo() = 0; time() = 0; undo()" + STATE);
        }
        Boundary.sentence("marked \"undoable\" (other methods save nothing)");
        for (String call : new String[] {"time()", "end(0, 0, 2)", "calls()", "callValue(3, 4)", "messages()", "message(0, 0)",
            "choice(1)", "count(0)", "total(0)", "digest()"}) {
            Boundary.onlyLooks(BUSY, call);
        }
    }

    private static void undoKeepsThree() {
        Boundary.sentence("The stack keeps the latest 3 saved states and drops older ones");
        for (int calls = 0; calls <= 9; calls++) {
            TrunkGroup group = new TrunkGroup();
            for (int i = 0; i < calls; i++) {
                group.tick(1);
            }
            int kept = Math.min(calls, 3);
            for (int left = kept - 1; left >= 0; left--) {
                Boundary.more(group, "undo() = " + left + "; time() = " + (calls - kept + left));
            }
            Boundary.more(group, "undo()" + STATE, "time() = " + (calls - kept));
        }
        Boundary.run("tick(1); tick(1); tick(1); tick(1); undo() = 2; tick(5); time() = 8; undo() = 2; undo() = 1; undo() = 0",
            "time() = 1; undo()" + STATE);
        Boundary.run("tick(1); tick(1); tick(1); undo() = 2; undo() = 1; tick(5); tick(5); tick(5); time() = 16; undo() = 2; undo() = 1",
            "undo() = 0; time() = 1; undo()" + STATE);
    }

    // ---- exceptions

    private static void exceptionsChangeNothing() {
        Boundary.sentence("A call that throws an exception changes nothing");
        String[] refused = {"setCircuits(13)" + ARGUMENT, "setDelay(0)" + ARGUMENT, "setFaulty(8, true)" + BOUNDS,
            "loseNext(2, 5)" + BOUNDS, "loseNext(0, -1)" + ARGUMENT, "call(2, true)" + BOUNDS, "accept(0, 8)" + BOUNDS,
            "accept(1, 2)" + STATE, "answer(2, 2)" + BOUNDS, "answer(1, 0)" + STATE, "answer(0, 2)" + STATE,
            "suspend(1, -1)" + BOUNDS, "suspend(1, 2)" + STATE, "suspend(0, 4)" + STATE, "resume(-1, 6)" + BOUNDS,
            "resume(1, 4)" + STATE, "resume(0, 6)" + STATE, "release(0, 8)" + BOUNDS, "release(0, 1)" + STATE,
            "block(2, 0)" + BOUNDS, "block(0, 7)" + STATE, "unblock(0, 8)" + BOUNDS, "unblock(1, 7)" + STATE,
            "reset(2, 0, 7)" + BOUNDS, "reset(0, 0, 8)" + BOUNDS, "reset(0, 7, 0)" + BOUNDS, "tick(501)" + ARGUMENT,
            "end(0, 8, 0)" + BOUNDS, "end(0, 0, 7)" + ARGUMENT, "callValue(5, 0)" + BOUNDS, "callValue(0, 5)" + ARGUMENT,
            "message(9, 0)" + BOUNDS, "message(0, 5)" + ARGUMENT, "choice(2)" + BOUNDS, "count(5)" + ARGUMENT, "total(5)" + ARGUMENT};
        for (String call : refused) {
            Boundary.same(BUSY + "; " + call, BUSY);
        }
        Boundary.same("undo()" + STATE, "");
        Boundary.same("setCircuits(1); call(0, true); call(0, true)" + STATE, "setCircuits(1); call(0, true)");
    }

    private static void exceptionListedFirst() {
        Boundary.sentence("If several exceptions of a method apply, the one that is listed first is thrown");
        Boundary.run("loseNext(2, 101)" + BOUNDS, "loseNext(-1, -1)" + BOUNDS, "end(2, 0, 7)" + BOUNDS, "end(0, 4, -1)" + BOUNDS,
            "callValue(0, 5)" + BOUNDS, "callValue(-1, -1)" + BOUNDS, "message(0, 5)" + BOUNDS, "message(-1, -1)" + BOUNDS);
        Boundary.run("setCircuits(1); call(0, true); call(2, true)" + BOUNDS, "call(-1, true)" + BOUNDS, "callValue(1, 5)" + BOUNDS,
            "message(1, 5)" + BOUNDS);
        for (String method : new String[] {"accept", "answer", "suspend", "resume", "release", "unblock"}) {
            Boundary.run(method + "(2, 0)" + BOUNDS, method + "(-1, 0)" + BOUNDS, method + "(0, 4)" + BOUNDS, method + "(1, -1)" + BOUNDS,
                method + "(0, 0)" + STATE, method + "(1, 0)" + STATE);
        }
        Boundary.run("block(0, 0); block(1, 0); block(2, 0)" + BOUNDS, "block(0, 4)" + BOUNDS, "block(0, 0)" + STATE);
        TrunkGroup group = Boundary.run(Stages.ONE_CIRCUIT);
        for (int i = 0; i < 40; i++) {
            Boundary.more(group, "call(0, false); release(0, 0); tick(2)");
        }
        Boundary.more(group, "call(2, false)" + BOUNDS, "call(-1, true)" + BOUNDS, "call(0, false)" + STATE);
    }

    private static void noneOnlyWithoutException() {
        Boundary.sentence("NONE is returned only if no exception applies");
        Boundary.run("setCircuits(1); call(0, false); choice(0) = NONE; choice(2)" + BOUNDS, "choice(-1)" + BOUNDS,
            "end(1, 0, 1) = NONE; end(1, 1, 1)" + BOUNDS, "end(2, 0, 1)" + BOUNDS, "callValue(0, 4) = NONE; callValue(1, 4)" + BOUNDS,
            "callValue(-1, 4)" + BOUNDS);
    }
}
