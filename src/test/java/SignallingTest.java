/** What messages do and what timers do, rule by rule, as the document's "Terms" tell it. */
public final class SignallingTest {
    private static final String STATE = " = throws IllegalStateException";
    private static final String COMES_IN = "call(0, false) = 0; tick(2) = 1;";
    private static final String RINGS = COMES_IN + "accept(1, 0) = 0; tick(2) = 1;";
    private static final String TALKS = RINGS + "answer(1, 0) = 0; tick(2) = 1;";
    private static final String RESTS = TALKS + "suspend(1, 0) = 0; tick(2) = 1;";

    /**
     * A late RELEASE has freed the end of exchange 0 at circuit 1 alone: the end of exchange 1 talks on, as the
     * origin of call 1. The time is 16, the delay 1.
     */
    private static final String HALF_FREED = "setCircuits(2) = 4; setDelay(6) = 2; call(1, false) = 0; release(1, 1) = 0;"
        + "tick(12) = 3; setDelay(1) = 6; call(1, false) = 1; tick(1) = 1; accept(0, 1) = 1; answer(0, 1) = 1; tick(1) = 2;"
        + "count(1) = 1; tick(2) = 1; end(0, 1, 0) = IDLE; end(1, 1, 0) = TALKING; end(1, 1, 1) = 1; tick(1) = 1;"
        + "end(1, 1, 0) = TALKING;";

    public static void main(String[] args) {
        seizeWithGlare();
        seizeAtClearingEnd();
        seizeAtBlockedEnd();
        seizeOverCall();
        checkedMessage();
        progressMessages();
        releaseMessages();
        blockMessages();
        resetMessages();
        callTimers();
        clearingTimers();
        blockTimers();
        orderInATick();
        furtherAttempts();
        Script.finish();
    }

    private static void seizeWithGlare() {
        Script.run("glare, no other circuit", "setCircuits(1); call(1, false) = 0; call(0, false) = 1; tick(2) = 2; total(2) = 2",
            "end(0, 0, 0) = OUTGOING; end(0, 0, 1) = 1; end(0, 0, 2) = 28; end(1, 0, 0) = INCOMING; end(1, 0, 1) = 1",
            "end(1, 0, 2) = 0; callValue(0, 3) = ENDED; callValue(0, 4) = GLARE; callValue(1, 4) = NONE; messages() = 0");
        Script.run("glare with checks", "setCircuits(1); call(1, true) = 0; call(0, true) = 1; tick(2) = 2; end(1, 0, 0) = INCOMING",
            "end(1, 0, 1) = 1; end(1, 0, 2) = 14; end(1, 0, 6) = 1; end(0, 0, 6) = 1; tick(3) = 1; accept(1, 0) = 1");
        Script.run("glare, only the winner checks", "setCircuits(1); call(1, true) = 0; call(0, false) = 1; tick(2) = 2",
            "end(1, 0, 6) = 0; end(1, 0, 2) = 0; accept(1, 0) = 1");
        Script.run("glare on an odd circuit", "setCircuits(2); call(0, false) = 0; call(0, false) = 1; call(1, false) = 2",
            "tick(2) = 3; total(2) = 2; end(1, 1, 0) = OUTGOING; end(0, 1, 0) = INCOMING; end(0, 1, 1) = 2; callValue(1, 4) = GLARE");
        Script.run("glare, another attempt, blockage, a third one, and the end",
            "setCircuits(5); loseNext(0, 2); block(0, 0); block(0, 2); call(1, false) = 0; call(1, false) = 1; call(1, false) = 2",
            "callValue(2, 1) = 4; call(0, false) = 3; callValue(3, 1) = 4; tick(2) = 4; total(2) = 2; end(1, 4, 0) = INCOMING",
            "end(1, 4, 1) = 3; callValue(2, 1) = 2; callValue(2, 2) = 2; callValue(2, 3) = SETTING_UP; callValue(2, 4) = NONE",
            "end(1, 2, 0) = OUTGOING; end(1, 2, 1) = 2; end(1, 2, 2) = 29; tick(2) = 1; end(0, 2, 0) = RELEASING",
            "end(0, 2, 1) = NONE; end(0, 2, 2) = 9; end(0, 2, 3) = 0; message(0, 3) = RELEASE; message(0, 4) = BLOCKAGE; tick(2) = 1",
            "message(0, 3) = RELEASED; message(1, 3) = SEIZE; message(1, 2) = 0; callValue(2, 1) = 0; callValue(2, 2) = 3",
            "end(1, 2, 0) = IDLE; tick(4); callValue(2, 3) = ENDED; callValue(2, 4) = BLOCKAGE; callValue(2, 2) = 3; total(4) = 6");
        Script.run("glare at a blocked end", "setCircuits(1); call(1, false) = 0; block(1, 0) = 0; call(0, false) = 1; tick(2) = 3",
            "end(1, 0, 0) = RELEASING; end(1, 0, 1) = NONE; end(1, 0, 2) = 9; callValue(0, 4) = GLARE; total(2) = 2; messages() = 2",
            "message(0, 3) = BLOCK_DONE; message(1, 3) = RELEASE; message(1, 4) = BLOCKAGE; tick(2) = 2; end(0, 0, 0) = IDLE",
            "callValue(1, 4) = BLOCKAGE; callValue(1, 2) = 1; tick(2) = 1; end(1, 0, 0) = IDLE; end(1, 0, 4) = BLOCKED");
    }

    private static void seizeAtClearingEnd() {
        Script.run("at a RELEASING end", COMES_IN, "release(1, 0) = 0; loseNext(0, 1) = 0; tick(2) = 1; callValue(0, 4) = NORMAL",
            "call(0, false) = 1; callValue(1, 1) = 0; tick(2) = 1; end(1, 0, 0) = RELEASING; end(1, 0, 1) = NONE; total(2) = 0",
            "end(1, 0, 2) = 6; tick(6) = 0; end(1, 0, 3) = 1; tick(2) = 1; callValue(1, 4) = NORMAL; tick(2) = 1; count(0) = 4");
        Script.run("at a RESETTING end", "loseNext(1, 1) = 0; reset(1, 0, 0) = 1; call(0, false) = 0; tick(2) = 1",
            "end(1, 0, 0) = RESETTING; end(1, 0, 1) = NONE; end(1, 0, 2) = 18; messages() = 0; tick(20) = 1",
            "callValue(0, 4) = RESETTING_CAUSE; end(0, 0, 0) = IDLE; tick(2) = 1; count(0) = 4");
        Script.run("at a RESETTING end that is blocked", "loseNext(1, 2) = 0; block(1, 0) = 0; reset(1, 0, 0) = 1; call(0, false) = 0",
            "tick(2) = 1; end(1, 0, 0) = RESETTING; messages() = 0");
    }

    private static void seizeAtBlockedEnd() {
        Script.run("BLOCKING", "loseNext(1, 1) = 0; block(1, 0) = 0; call(0, false) = 0; tick(2) = 1; end(1, 0, 0) = RELEASING",
            "end(1, 0, 1) = NONE; end(1, 0, 2) = 9; end(1, 0, 3) = 0; message(0, 3) = RELEASE; message(0, 4) = BLOCKAGE; tick(2) = 1",
            "callValue(0, 1) = 2; callValue(0, 2) = 2; callValue(0, 3) = SETTING_UP; end(0, 0, 0) = IDLE; end(0, 2, 0) = OUTGOING");
        Script.run("BLOCKED", "setCircuits(1); loseNext(0, 1) = 0; block(1, 0) = 0; tick(12) = 2; end(1, 0, 4) = BLOCKING; tick(2) = 1",
            "end(1, 0, 4) = BLOCKED; loseNext(0, 1) = 0; reset(0, 0, 0) = 1; tick(20) = 0; tick(4) = 3; end(0, 0, 0) = IDLE",
            "end(0, 0, 5) = 1; choice(0) = NONE");
        Script.run("UNBLOCKING", "block(1, 0) = 0; call(0, false) = 0; unblock(1, 0) = BLOCKING; tick(2) = 3",
            "end(1, 0, 0) = INCOMING; end(1, 0, 1) = 0");
        Script.run("the same value is repeated", "loseNext(1, 2) = 0; block(1, 0) = 0; call(0, false) = 0; tick(2) = 1; tick(10)",
            "end(1, 0, 3) = 1; total(1) = 2; tick(2); callValue(0, 1) = 2; callValue(0, 2) = 2");
        Script.run("over a call", HALF_FREED, "loseNext(1, 1) = 0; block(1, 1) = 0; call(0, false) = 2; call(0, false) = 3",
            "callValue(3, 1) = 1; tick(1) = 2; end(1, 1, 0) = RELEASING; end(1, 1, 1) = NONE; end(1, 1, 2) = 9",
            "callValue(1, 3) = ENDED; callValue(1, 4) = LOST; message(0, 3) = RELEASE; message(0, 4) = BLOCKAGE; total(2) = 0",
            "tick(1) = 1; callValue(3, 4) = BLOCKAGE");
    }

    private static void seizeOverCall() {
        Script.run("over a call whose origin it is", HALF_FREED, "call(0, true) = 2; call(0, true) = 3; callValue(3, 1) = 1",
            "tick(1) = 2; end(1, 1, 0) = INCOMING; end(1, 1, 1) = 3; end(1, 1, 2) = 14; end(1, 1, 6) = 1; callValue(1, 3) = ENDED",
            "callValue(1, 4) = LOST; callValue(1, 2) = 1; callValue(0, 4) = NORMAL; total(2) = 0");
        Script.run("over a call that came in", "setDelay(6) = 2; call(0, false) = 0; tick(6) = 1; release(1, 0) = 0; undo() = 2",
            "loseNext(0, 1) = 0; release(0, 0) = 0; tick(10) = 0; tick(12) = 2; end(0, 0, 0) = IDLE; end(1, 0, 0) = IDLE",
            "messages() = 1; message(0, 3) = RELEASE; tick(4) = 1; messages() = 1; tick(6) = 1; messages() = 0; count(0) = 4");
        Script.run("seized anew", "call(0, true) = 0; tick(2) = 1; end(1, 0, 6) = 1; loseNext(0, 1) = 0; setFaulty(0, true)",
            "setFaulty(2, true); setFaulty(1, true); setFaulty(3, true); tick(1) = 0; end(0, 0, 0) = IDLE; call(0, false) = 1",
            "callValue(1, 1) = 0; tick(2); end(1, 0, 0) = INCOMING; end(1, 0, 1) = 1; end(1, 0, 6) = 0; end(1, 0, 2) = 0",
            "accept(1, 0) = 1");
    }

    private static void checkedMessage() {
        Script.run("a good circuit", "call(0, true) = 0; tick(3) = 1; end(0, 0, 0) = OUTGOING; end(0, 0, 2) = 30; end(0, 0, 6) = 0",
            "message(0, 3) = CHECKED; message(0, 4) = 1; end(1, 0, 2) = 13; tick(1) = 0; accept(1, 0)" + STATE,
            "tick(1) = 1; end(1, 0, 0) = INCOMING; end(1, 0, 2) = 0; end(1, 0, 6) = 0; accept(1, 0) = 0");
        Script.run("a bad circuit", "setCircuits(1); setFaulty(0, true); call(0, true) = 0; tick(3) = 1; end(0, 0, 0) = IDLE",
            "end(0, 0, 1) = NONE; end(0, 0, 6) = 0; callValue(0, 4) = CHECK; message(0, 3) = CHECKED; message(0, 4) = 0",
            "tick(2) = 1; end(1, 0, 0) = IDLE; end(1, 0, 1) = NONE; end(1, 0, 2) = 0; end(1, 0, 6) = 0");
        Script.run("CHECKED at an end that does not wait", "setFaulty(0, true); setDelay(9); call(0, true) = 0; tick(3) = 0",
            "setDelay(1); call(0, false) = 1; callValue(1, 1) = 0; tick(1) = 1; end(1, 0, 1) = 1; tick(4); accept(1, 0) = 1",
            "tick(1); end(1, 0, 0) = INCOMING");
        Script.run("CHECKED without SEIZE", "loseNext(0, 1) = 0; call(0, true) = 0; tick(5) = 1; end(1, 0, 0) = IDLE");
    }

    private static void progressMessages() {
        Script.run("COMPLETE", COMES_IN, "accept(1, 0); tick(2) = 1; end(0, 0, 0) = RINGING; end(0, 0, 1) = 0; end(0, 0, 2) = 59",
            "callValue(0, 3) = IN_RINGING; end(1, 0, 0) = RINGING; end(1, 0, 2) = 0");
        Script.run("ANSWER at RINGING", RINGS, "answer(1, 0); tick(2) = 1; end(0, 0, 0) = TALKING; end(0, 0, 1) = 0; end(0, 0, 2) = 0",
            "callValue(0, 3) = IN_TALKING; tick(500) = 0; count(1) = 1; total(3) = 0");
        Script.run("ANSWER at OUTGOING", COMES_IN, "loseNext(1, 1); accept(1, 0); answer(1, 0); tick(2) = 1; end(0, 0, 0) = TALKING",
            "end(0, 0, 2) = 0; callValue(0, 3) = IN_TALKING");
        Script.run("SUSPEND", TALKS, "suspend(1, 0); tick(2) = 1; end(0, 0, 0) = SUSPENDED; end(0, 0, 1) = 0; end(0, 0, 2) = 39",
            "callValue(0, 3) = IN_SUSPENSION; end(1, 0, 2) = 0");
        Script.run("RESUME", RESTS, "resume(1, 0); tick(2) = 1; end(0, 0, 0) = TALKING; end(0, 0, 2) = 0; callValue(0, 3) = IN_TALKING");
        Script.run("SUSPEND at RINGING does nothing", RINGS, "loseNext(1, 1); answer(1, 0); suspend(1, 0); tick(2) = 1",
            "end(0, 0, 0) = RINGING; callValue(0, 3) = IN_RINGING; resume(1, 0); tick(2) = 1; end(0, 0, 0) = RINGING");
        Script.run("RESUME at TALKING does nothing", TALKS, "loseNext(1, 1); suspend(1, 0); resume(1, 0); tick(2) = 1",
            "end(0, 0, 0) = TALKING; callValue(0, 3) = IN_TALKING");
        Script.run("SUSPEND at SUSPENDED does nothing", RESTS, "loseNext(1, 1); resume(1, 0); suspend(1, 0); tick(2) = 1",
            "end(0, 0, 0) = SUSPENDED; end(0, 0, 2) = 37");
        Script.run("nothing moves an end that releases", RINGS, "release(0, 0); answer(1, 0); tick(2) = 2; end(0, 0, 0) = RELEASING",
            "callValue(0, 3) = ENDED; callValue(0, 4) = NORMAL");
        Script.run("COMPLETE of an earlier call, before the check", "setDelay(1); call(0, false) = 0; tick(1) = 1; setDelay(8)",
            "accept(1, 0) = 0; setDelay(1); release(0, 0) = 0; tick(2) = 2; call(0, true) = 1; callValue(1, 1) = 0; tick(2) = 1",
            "end(0, 0, 6) = 1; setDelay(9); setDelay(1); tick(1) = 0; end(0, 0, 6) = 0; tick(3) = 2; end(0, 0, 0) = RINGING");
        Script.run("COMPLETE ends the wait for the check", "setDelay(1); call(0, false) = 0; tick(1) = 1; setDelay(4)",
            "accept(1, 0) = 0; setDelay(1); release(0, 0) = 0; tick(2) = 2; call(0, true) = 1; callValue(1, 1) = 0; tick(2) = 2",
            "end(0, 0, 0) = RINGING; end(0, 0, 1) = 1; end(0, 0, 2) = 59; end(0, 0, 6) = 0; callValue(1, 3) = IN_RINGING",
            "tick(20); total(3) = 1; end(0, 0, 0) = IDLE; callValue(1, 4) = CHECK");
    }

    private static void releaseMessages() {
        Script.run("at the called end", TALKS, "release(0, 0); tick(2) = 1; end(1, 0, 0) = IDLE; end(1, 0, 1) = NONE",
            "message(0, 3) = RELEASED; message(0, 1) = 1; message(0, 2) = 0; message(0, 4) = 0; tick(2) = 1; end(0, 0, 0) = IDLE",
            "end(0, 0, 2) = 0; end(0, 0, 3) = 0; tick(50) = 0");
        Script.run("at the origin", RINGS, "release(1, 0); tick(2) = 1; end(0, 0, 0) = IDLE; end(0, 0, 2) = 0; callValue(0, 4) = NORMAL");
        Script.run("from both ends", TALKS, "release(0, 0); release(1, 0); tick(2) = 2; messages() = 2; end(0, 0, 0) = RELEASING",
            "end(1, 0, 0) = RELEASING; message(0, 3) = RELEASED; message(1, 3) = RELEASED; tick(2) = 2; count(0) = 4");
        Script.run("at an idle end", "loseNext(0, 1); call(0, false) = 0; release(0, 0); tick(2) = 1; end(1, 0, 0) = IDLE; tick(2) = 1",
            "end(0, 0, 0) = IDLE");
        Script.run("at a RESETTING end", TALKS, "loseNext(0, 1); reset(0, 0, 0); release(1, 0); tick(2) = 1; end(0, 0, 0) = RESETTING",
            "message(0, 3) = RELEASED; tick(2) = 1; end(1, 0, 0) = IDLE; end(0, 0, 0) = RESETTING");
        Script.run("RELEASED at other ends", "setDelay(6); call(0, false) = 0; release(0, 0); tick(10); tick(2); end(0, 0, 0) = IDLE",
            "setDelay(20); call(0, false) = 1; tick(10); end(0, 0, 0) = OUTGOING; end(0, 0, 1) = 1");
        Script.run("blockage of a call that talks", "call(0, false) = 0; tick(2); loseNext(1, 1); block(1, 0); accept(1, 0); answer(1, 0)",
            "tick(2) = 2; count(1) = 1; tick(8); count(1) = 1; count(4) = 1; end(0, 0, 0) = TALKING");
        Script.run("the cause is the value", "call(0, true) = 0; loseNext(0, 1); tick(16); end(1, 0, 0) = RELEASING",
            "message(0, 4) = CHECK; tick(2); callValue(0, 4) = CHECK; callValue(0, 2) = 1; count(0) = 3");
    }

    private static void blockMessages() {
        Script.run("BLOCK and BLOCK_DONE", "block(0, 3); tick(2) = 1; end(1, 3, 5) = 1; end(0, 3, 5) = 0; message(0, 3) = BLOCK_DONE",
            "message(0, 1) = 1; message(0, 2) = 3; choice(1) = 1; call(1, false); choice(1) = 2; tick(2); end(0, 3, 4) = BLOCKED");
        Script.run("UNBLOCK and UNBLOCK_DONE", "block(0, 3); tick(4); unblock(0, 3); choice(1) = 1; tick(2); end(1, 3, 5) = 0; tick(2)",
            "end(0, 3, 4) = NOT_BLOCKED");
        Script.run("BLOCK_DONE while UNBLOCKING", "block(0, 3); tick(2); unblock(0, 3) = BLOCKING; tick(2) = 2; end(0, 3, 4) = UNBLOCKING",
            "tick(2) = 1; end(0, 3, 4) = NOT_BLOCKED");
        Script.run("UNBLOCK_DONE while BLOCKING", "block(0, 3); tick(4); unblock(0, 3); tick(2); block(0, 3) = UNBLOCKING; tick(2) = 2",
            "end(0, 3, 4) = BLOCKING; end(1, 3, 5) = 1; tick(2) = 1; end(0, 3, 4) = BLOCKED");
        Script.run("a late BLOCK_DONE counts", "block(0, 3); unblock(0, 3); block(0, 3); tick(4) = 6; end(0, 3, 4) = BLOCKED");
        Script.run("blocks from both ends", "block(0, 1); block(1, 1); tick(4) = 4; end(0, 1, 4) = 2; end(1, 1, 4) = 2; end(0, 1, 5) = 1",
            "end(1, 1, 5) = 1; count(4) = 1; unblock(0, 1); tick(4) = 2; end(1, 1, 5) = 0; end(0, 1, 5) = 1; count(4) = 1");
        Script.run("calls go on", TALKS, "block(0, 0); block(1, 0); tick(4) = 4; count(1) = 1; suspend(1, 0); tick(2) = 1",
            "end(0, 0, 0) = SUSPENDED; release(0, 0); tick(4) = 2; count(0) = 4; count(4) = 1; choice(0) = 2");
    }

    private static void resetMessages() {
        Script.run("at the called end", TALKS, "reset(0, 0, 0) = 0; callValue(0, 4) = RESETTING_CAUSE; tick(2) = 1; end(1, 0, 0) = IDLE",
            "end(1, 0, 1) = NONE; message(0, 3) = RESET_DONE; message(0, 1) = 1; tick(2) = 1; end(0, 0, 0) = IDLE; end(0, 0, 2) = 0");
        Script.run("at the origin", RESTS, "reset(1, 0, 0) = 0; callValue(0, 4) = NONE; tick(2) = 1; end(0, 0, 0) = IDLE",
            "end(0, 0, 2) = 0; callValue(0, 3) = ENDED; callValue(0, 4) = RESETTING_CAUSE");
        Script.run("from both ends", TALKS, "reset(0, 0, 0); reset(1, 0, 0); tick(2) = 2; count(3) = 1; end(0, 0, 0) = RESETTING",
            "end(1, 0, 0) = RESETTING; tick(2) = 2; count(0) = 4");
        Script.run("at a RELEASING end", TALKS, "loseNext(0, 1); release(0, 0); reset(1, 0, 0); tick(2) = 1; end(0, 0, 0) = IDLE",
            "end(0, 0, 2) = 0; tick(2) = 1; count(0) = 4; tick(50) = 0");
        Script.run("the remote block goes", "block(1, 2); tick(4); end(0, 2, 5) = 1; reset(1, 2, 2) = 1; tick(2) = 1; end(0, 2, 5) = 0",
            "tick(2) = 1; end(1, 2, 4) = BLOCKED; choice(0) = 0");
        Script.run("a local block is told again", "block(1, 2); tick(4); reset(0, 2, 2) = 1; tick(2) = 1; end(1, 2, 4) = BLOCKING",
            "messages() = 2; message(0, 3) = RESET_DONE; message(1, 3) = BLOCK; message(1, 1) = 1; message(1, 2) = 2",
            "end(0, 2, 5) = 1; tick(2) = 2; end(0, 2, 5) = 1; end(0, 2, 0) = IDLE; tick(2) = 1; end(1, 2, 4) = BLOCKED");
        Script.run("UNBLOCKING stays", "block(1, 2); tick(4); loseNext(1, 1); unblock(1, 2); reset(0, 2, 2) = 1; tick(2) = 1",
            "end(1, 2, 4) = UNBLOCKING; messages() = 1; tick(2) = 1; tick(10) = 2; end(1, 2, 4) = NOT_BLOCKED");
        Script.run("the block timer begins anew", "loseNext(1, 3); block(1, 2); tick(7); reset(0, 2, 2) = 1; tick(2) = 1; total(1) = 3",
            "end(1, 2, 4) = BLOCKING; tick(8) = 0; total(0) = 4; tick(1) = 0; total(0) = 5; tick(2) = 1; end(0, 2, 5) = 1");
        Script.run("RESET_DONE at other ends", "loseNext(0, 1); reset(0, 0, 0); setDelay(15); tick(20); setDelay(1); tick(20)",
            "end(0, 0, 0) = IDLE; call(0, false) = 0; tick(10); end(0, 0, 0) = OUTGOING");
    }

    private static void callTimers() {
        Script.run("OUTGOING", "call(0, false) = 0; tick(29) = 1; end(0, 0, 0) = OUTGOING; end(0, 0, 2) = 1; total(3) = 0; tick(1) = 0",
            "end(0, 0, 0) = RELEASING; end(0, 0, 1) = NONE; end(0, 0, 2) = 10; callValue(0, 3) = ENDED; callValue(0, 4) = TIMEOUT",
            "message(0, 3) = RELEASE; message(0, 4) = TIMEOUT; total(3) = 1; callValue(0, 2) = 1; tick(4) = 2; count(0) = 4");
        Script.run("OUTGOING after the check", "call(0, true) = 0; tick(3); end(0, 0, 2) = 30; tick(29); end(0, 0, 0) = OUTGOING; tick(1)",
            "end(0, 0, 0) = RELEASING; callValue(0, 4) = TIMEOUT; total(3) = 2");
        Script.run("RINGING", RINGS, "tick(58); end(0, 0, 0) = RINGING; end(0, 0, 2) = 1; tick(1); end(0, 0, 0) = RELEASING",
            "callValue(0, 4) = TIMEOUT; message(0, 4) = TIMEOUT; end(1, 0, 0) = RINGING; tick(2); end(1, 0, 0) = IDLE");
        Script.run("SUSPENDED", RESTS, "tick(38); end(0, 0, 0) = SUSPENDED; tick(1); end(0, 0, 0) = RELEASING; callValue(0, 4) = TIMEOUT",
            "end(1, 0, 0) = SUSPENDED; message(0, 4) = TIMEOUT; tick(2); end(1, 0, 0) = IDLE");
        Script.run("INCOMING", "call(0, true) = 0; tick(2) = 1; loseNext(0, 1); end(1, 0, 2) = 14; tick(13); end(1, 0, 0) = INCOMING",
            "end(1, 0, 2) = 1; tick(1); end(1, 0, 0) = RELEASING; end(1, 0, 1) = NONE; end(1, 0, 2) = 10; message(0, 3) = RELEASE",
            "message(0, 4) = CHECK; callValue(0, 4) = NONE; tick(2); callValue(0, 4) = CHECK; total(3) = 2");
        Script.run("no timer at the called end", TALKS, "suspend(1, 0); loseNext(0, 100); tick(500); end(1, 0, 0) = SUSPENDED");
        Script.run("no timer when it has come in", COMES_IN, "loseNext(0, 100); tick(500); end(1, 0, 0) = INCOMING");
        Script.run("no timer when it rings", COMES_IN, "accept(1, 0); loseNext(0, 100); tick(500); end(1, 0, 0) = RINGING");
    }

    private static void clearingTimers() {
        Script.run("RELEASING", TALKS, "loseNext(0, 100); release(0, 0); tick(9); end(0, 0, 2) = 1; total(0) = 4; tick(1); total(0) = 5",
            "end(0, 0, 3) = 1; end(0, 0, 2) = 10; tick(10); end(0, 0, 3) = 2; total(0) = 6; tick(9); end(0, 0, 0) = RELEASING",
            "tick(1); end(0, 0, 0) = RESETTING; end(0, 0, 3) = 0; end(0, 0, 2) = 20; total(0) = 7; callValue(0, 4) = NORMAL");
        Script.run("the last repetition helps", TALKS, "loseNext(0, 2); release(0, 0); tick(20); messages() = 1; message(0, 3) = RELEASE",
            "message(0, 4) = NORMAL; tick(4) = 2; count(0) = 4; end(0, 0, 3) = 0");
        Script.run("RESETTING", "loseNext(0, 3); reset(0, 1, 1) = 1; tick(19); end(0, 1, 2) = 1; tick(1); end(0, 1, 2) = 20; total(0) = 2",
            "end(0, 1, 3) = 0; tick(20); total(0) = 3; total(1) = 3; tick(20); message(0, 3) = RESET; message(0, 2) = 1; tick(4) = 2",
            "count(0) = 4; total(3) = 3");
        Script.run("the value TIMEOUT is repeated", "loseNext(0, 2); call(0, false) = 0; tick(40); message(0, 3) = RELEASE; message(0, 4) = TIMEOUT");
        Script.run("the value CHECK is repeated", "call(0, true) = 0; tick(2); loseNext(0, 1); loseNext(1, 1); tick(14); total(1) = 2; tick(10)",
            "message(0, 3) = RELEASE; message(0, 4) = CHECK; tick(2); callValue(0, 4) = CHECK");
        Script.run("an older value is forgotten", "loseNext(0, 2); call(0, false) = 0; tick(40); tick(4) = 2; loseNext(0, 2); call(0, false) = 1",
            "release(0, 0); tick(10); message(0, 3) = RELEASE; message(0, 4) = NORMAL");
    }

    private static void blockTimers() {
        Script.run("BLOCK again and again", "loseNext(0, 3); block(0, 0); tick(29); total(0) = 3; tick(1); total(0) = 4; messages() = 1",
            "tick(4) = 2; end(0, 0, 4) = BLOCKED; total(3) = 0; tick(100) = 0");
        Script.run("UNBLOCK again and again", "block(1, 0); tick(4); loseNext(1, 2); unblock(1, 0); tick(19); total(1) = 2; tick(1)",
            "message(0, 3) = UNBLOCK; message(0, 1) = 1; tick(4) = 2; end(1, 0, 4) = NOT_BLOCKED; tick(100) = 0");
        Script.run("a long delay repeats too early", "setDelay(6); block(0, 0); tick(12) = 2; end(0, 0, 4) = BLOCKED; messages() = 1",
            "tick(10) = 2; end(0, 0, 4) = BLOCKED; tick(100) = 0");
    }

    private static void orderInATick() {
        Script.run("messages come before timers", "setDelay(15); call(0, false) = 0; tick(15) = 1; accept(1, 0) = 0; tick(15) = 1",
            "end(0, 0, 0) = RINGING; end(0, 0, 2) = 59; total(3) = 0");
        Script.run("a later circuit of the same exchange counts at once", "setFaulty(0, true); call(0, true) = 0; tick(3)",
            "callValue(0, 1) = 2; end(0, 2, 2) = 2");
        Script.run("an earlier circuit does not", "setCircuits(3); setFaulty(2, true); loseNext(0, 1); block(0, 0); call(0, true) = 0",
            "callValue(0, 1) = 2; tick(3); callValue(0, 1) = 1; end(0, 1, 2) = 3; end(0, 1, 6) = 1");
        Script.run("exchange 0 before exchange 1, and the circuits in ascending order",
            "setDelay(9); call(1, true) = 0; call(0, true) = 1; call(1, true) = 2; call(0, true) = 3; tick(3) = 0; messages() = 8",
            "message(4, 3) = CHECKED; message(4, 1) = 0; message(4, 2) = 0; message(5, 1) = 0; message(5, 2) = 2",
            "message(6, 1) = 1; message(6, 2) = 1; message(7, 1) = 1; message(7, 2) = 3");
        Script.run("the timer of an end before its block timer", "setDelay(20); loseNext(0, 1); reset(0, 0, 0); tick(10); block(0, 0); block(0, 1); tick(10)",
            "messages() = 5; message(0, 3) = BLOCK; message(0, 2) = 0; message(1, 3) = BLOCK; message(1, 2) = 1",
            "message(2, 3) = RESET; message(2, 2) = 0; message(3, 3) = BLOCK; message(3, 2) = 0; message(4, 2) = 1");
        Script.run("in the order of sending, whatever the delays", "setDelay(5); block(0, 1); tick(3); setDelay(2); unblock(0, 1); tick(2) = 2",
            "end(1, 1, 5) = 0; messages() = 2; message(0, 3) = BLOCK_DONE; message(1, 3) = UNBLOCK_DONE");
        Script.run("overtaken", "setDelay(5); block(0, 1); setDelay(1); unblock(0, 1); tick(5) = 3; end(1, 1, 5) = 1; end(0, 1, 4) = 0");
    }

    private static void furtherAttempts() {
        Script.run("three attempts at most", "setFaulty(0, true); setFaulty(2, true); setFaulty(1, true); setFaulty(3, true)",
            "call(0, true) = 0; tick(3); callValue(0, 1) = 2; tick(2); callValue(0, 1) = 0; callValue(0, 2) = 3; end(0, 0, 2) = 3; tick(2)",
            "callValue(0, 4) = NONE; tick(1); callValue(0, 3) = ENDED; callValue(0, 4) = CHECK; callValue(0, 1) = 0; total(4) = 3");
        Script.run("not the same circuit", "setCircuits(1); setFaulty(0, true); call(0, true) = 0; tick(3); callValue(0, 2) = 1",
            "callValue(0, 4) = CHECK; choice(0) = 0");
        Script.run("a good one after a bad one", "setCircuits(2); setFaulty(0, true); call(0, true) = 0; tick(3); callValue(0, 1) = 1",
            "message(1, 3) = SEIZE; message(1, 4) = 1; tick(8); accept(1, 1) = 0; answer(1, 1) = 0; tick(2); count(1) = 1");
        Script.run("blockage, and no other circuit", "setCircuits(1); loseNext(1, 1); block(1, 0); call(0, false) = 0; tick(4) = 2",
            "callValue(0, 3) = ENDED; callValue(0, 4) = BLOCKAGE; callValue(0, 2) = 1");
    }
}
